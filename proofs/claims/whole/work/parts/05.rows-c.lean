theorem dX3_pass_46 : decode cX3_pass 46 = .ok (.ireturn, 1) := by decide +kernel
theorem dX3_addCause_0 : decode cX3_addCause 0 = .ok (.iload_n 1, 1) := by decide +kernel
theorem dX3_addCause_1 : decode cX3_addCause 1 = .ok (.ifCond .eq 33, 3) := by decide +kernel
theorem dX3_addCause_4 : decode cX3_addCause 4 = .ok (.aload_n 0, 1) := by decide +kernel
theorem dX3_addCause_5 : decode cX3_addCause 5 = .ok (.getfield 7, 3) := by decide +kernel
theorem dX3_addCause_8 : decode cX3_addCause 8 = .ok (.sipush 292, 3) := by decide +kernel
theorem dX3_addCause_11 : decode cX3_addCause 11 = .ok (.aload_n 0, 1) := by decide +kernel
theorem dX3_addCause_12 : decode cX3_addCause 12 = .ok (.getfield 7, 3) := by decide +kernel
theorem dX3_addCause_15 : decode cX3_addCause 15 = .ok (.sipush 296, 3) := by decide +kernel
theorem dX3_addCause_18 : decode cX3_addCause 18 = .ok (.iaload, 1) := by decide +kernel
theorem dX3_addCause_19 : decode cX3_addCause 19 = .ok (.iadd, 1) := by decide +kernel
theorem dX3_addCause_20 : decode cX3_addCause 20 = .ok (.iload_n 2, 1) := by decide +kernel
theorem dX3_addCause_21 : decode cX3_addCause 21 = .ok (.iastore, 1) := by decide +kernel
theorem dX3_addCause_22 : decode cX3_addCause 22 = .ok (.aload_n 0, 1) := by decide +kernel
theorem dX3_addCause_23 : decode cX3_addCause 23 = .ok (.getfield 7, 3) := by decide +kernel
theorem dX3_addCause_26 : decode cX3_addCause 26 = .ok (.sipush 296, 3) := by decide +kernel
theorem dX3_addCause_29 : decode cX3_addCause 29 = .ok (.dup2, 1) := by decide +kernel
theorem dX3_addCause_30 : decode cX3_addCause 30 = .ok (.iaload, 1) := by decide +kernel
theorem dX3_addCause_31 : decode cX3_addCause 31 = .ok (.iconst 1, 1) := by decide +kernel
theorem dX3_addCause_32 : decode cX3_addCause 32 = .ok (.iadd, 1) := by decide +kernel
theorem dX3_addCause_33 : decode cX3_addCause 33 = .ok (.iastore, 1) := by decide +kernel
theorem dX3_addCause_34 : decode cX3_addCause 34 = .ok (.return_, 1) := by decide +kernel
set_option maxRecDepth 20000 in
theorem ggX3_renew_X3_volumeAt : GoodIn wsX3_renew wsX3_volumeAt := goodIn_r _ [5] (by decide +kernel) (by decide +kernel)
set_option maxRecDepth 20000 in
theorem gX3_renew_X3_volumeAt : GoodIn wsX3_renew (va_wsS RX3 40 yX3_volumeAt wsX3_volumeAt) := goodIn_app (goodIn_of _ (by decide +kernel)) ggX3_renew_X3_volumeAt
set_option maxRecDepth 20000 in
theorem ggX3_renew_X3_said : GoodIn wsX3_renew wsX3_said := goodIn_r _ [8] (by decide +kernel) (by decide +kernel)
set_option maxRecDepth 20000 in
theorem gX3_renew_X3_said : GoodIn wsX3_renew (va_wsS RX3 20 yX3_said wsX3_said) := goodIn_app (goodIn_of _ (by decide +kernel)) ggX3_renew_X3_said
set_option maxRecDepth 20000 in
theorem ggX3_renew_X3_thingAt : GoodIn wsX3_renew wsX3_thingAt := goodIn_r _ [11] (by decide +kernel) (by decide +kernel)
set_option maxRecDepth 20000 in
theorem gX3_renew_X3_thingAt : GoodIn wsX3_renew (va_wsS RX3 32 yX3_thingAt wsX3_thingAt) := goodIn_app (goodIn_of _ (by decide +kernel)) ggX3_renew_X3_thingAt
set_option maxRecDepth 20000 in
theorem ggX3_renew_X3_clear : GoodIn wsX3_renew wsX3_clear := goodIn_r _ [15, 1, 9, 10, 4, 11, 16, 17, 18] (by decide +kernel) (by decide +kernel)
set_option maxRecDepth 20000 in
theorem gX3_renew_X3_clear : GoodIn wsX3_renew (wsV RX3 46 RX3 yX3_clear wsX3_clear) := goodIn_app (goodIn_of _ (by decide +kernel)) ggX3_renew_X3_clear
theorem dX3_renew_0 : decode cX3_renew 0 = .ok (.bipush 52, 2) := by decide +kernel
theorem dX3_renew_2 : decode cX3_renew 2 = .ok (.iload_n 1, 1) := by decide +kernel
theorem dX3_renew_3 : decode cX3_renew 3 = .ok (.iload_n 2, 1) := by decide +kernel
theorem dX3_renew_4 : decode cX3_renew 4 = .ok (.invokestatic 40, 3) := by decide +kernel
theorem dX3_renew_7 : decode cX3_renew 7 = .ok (.istore_n 3, 1) := by decide +kernel
theorem dX3_renew_8 : decode cX3_renew 8 = .ok (.bipush 67, 2) := by decide +kernel
theorem dX3_renew_10 : decode cX3_renew 10 = .ok (.iload_n 1, 1) := by decide +kernel
theorem dX3_renew_11 : decode cX3_renew 11 = .ok (.iload_n 2, 1) := by decide +kernel
theorem dX3_renew_12 : decode cX3_renew 12 = .ok (.invokestatic 40, 3) := by decide +kernel
theorem dX3_renew_15 : decode cX3_renew 15 = .ok (.istore 4, 2) := by decide +kernel
theorem dX3_renew_17 : decode cX3_renew 17 = .ok (.aload_n 0, 1) := by decide +kernel
theorem dX3_renew_18 : decode cX3_renew 18 = .ok (.getfield 7, 3) := by decide +kernel
theorem dX3_renew_21 : decode cX3_renew 21 = .ok (.iconst 0, 1) := by decide +kernel
theorem dX3_renew_22 : decode cX3_renew 22 = .ok (.iaload, 1) := by decide +kernel
theorem dX3_renew_23 : decode cX3_renew 23 = .ok (.aload_n 0, 1) := by decide +kernel
theorem dX3_renew_24 : decode cX3_renew 24 = .ok (.getfield 7, 3) := by decide +kernel
theorem dX3_renew_27 : decode cX3_renew 27 = .ok (.iload_n 3, 1) := by decide +kernel
theorem dX3_renew_28 : decode cX3_renew 28 = .ok (.iaload, 1) := by decide +kernel
theorem dX3_renew_29 : decode cX3_renew 29 = .ok (.isub, 1) := by decide +kernel
theorem dX3_renew_30 : decode cX3_renew 30 = .ok (.aload_n 0, 1) := by decide +kernel
theorem dX3_renew_31 : decode cX3_renew 31 = .ok (.getfield 7, 3) := by decide +kernel
theorem dX3_renew_34 : decode cX3_renew 34 = .ok (.iconst 4, 1) := by decide +kernel
theorem dX3_renew_35 : decode cX3_renew 35 = .ok (.iaload, 1) := by decide +kernel
theorem dX3_renew_36 : decode cX3_renew 36 = .ok (.if_icmp .le 7, 3) := by decide +kernel
theorem dX3_renew_39 : decode cX3_renew 39 = .ok (.iconst 1, 1) := by decide +kernel
theorem dX3_renew_40 : decode cX3_renew 40 = .ok (.goto 4, 3) := by decide +kernel
theorem dX3_renew_43 : decode cX3_renew 43 = .ok (.iconst 0, 1) := by decide +kernel
theorem dX3_renew_44 : decode cX3_renew 44 = .ok (.istore 5, 2) := by decide +kernel
theorem dX3_renew_46 : decode cX3_renew 46 = .ok (.aload_n 0, 1) := by decide +kernel
theorem dX3_renew_47 : decode cX3_renew 47 = .ok (.getfield 7, 3) := by decide +kernel
theorem dX3_renew_50 : decode cX3_renew 50 = .ok (.iload 4, 2) := by decide +kernel
theorem dX3_renew_52 : decode cX3_renew 52 = .ok (.iaload, 1) := by decide +kernel
theorem dX3_renew_53 : decode cX3_renew 53 = .ok (.ifCond .eq 98, 3) := by decide +kernel
theorem dX3_renew_56 : decode cX3_renew 56 = .ok (.iload_n 2, 1) := by decide +kernel
theorem dX3_renew_57 : decode cX3_renew 57 = .ok (.iconst 4, 1) := by decide +kernel
theorem dX3_renew_58 : decode cX3_renew 58 = .ok (.idiv, 1) := by decide +kernel
theorem dX3_renew_59 : decode cX3_renew 59 = .ok (.iconst 4, 1) := by decide +kernel
theorem dX3_renew_60 : decode cX3_renew 60 = .ok (.imul, 1) := by decide +kernel
theorem dX3_renew_61 : decode cX3_renew 61 = .ok (.istore 6, 2) := by decide +kernel
theorem dX3_renew_63 : decode cX3_renew 63 = .ok (.iload 6, 2) := by decide +kernel
theorem dX3_renew_65 : decode cX3_renew 65 = .ok (.iload_n 2, 1) := by decide +kernel
theorem dX3_renew_66 : decode cX3_renew 66 = .ok (.iconst 4, 1) := by decide +kernel
theorem dX3_renew_67 : decode cX3_renew 67 = .ok (.idiv, 1) := by decide +kernel
theorem dX3_renew_68 : decode cX3_renew 68 = .ok (.iconst 4, 1) := by decide +kernel
theorem dX3_renew_69 : decode cX3_renew 69 = .ok (.imul, 1) := by decide +kernel
theorem dX3_renew_70 : decode cX3_renew 70 = .ok (.iconst 4, 1) := by decide +kernel
theorem dX3_renew_71 : decode cX3_renew 71 = .ok (.iadd, 1) := by decide +kernel
theorem dX3_renew_72 : decode cX3_renew 72 = .ok (.if_icmp .ge 71, 3) := by decide +kernel
theorem dX3_renew_75 : decode cX3_renew 75 = .ok (.iload 5, 2) := by decide +kernel
theorem dX3_renew_77 : decode cX3_renew 77 = .ok (.ifCond .ne 19, 3) := by decide +kernel
theorem dX3_renew_80 : decode cX3_renew 80 = .ok (.aload_n 0, 1) := by decide +kernel
theorem dX3_renew_81 : decode cX3_renew 81 = .ok (.getfield 7, 3) := by decide +kernel
theorem dX3_renew_84 : decode cX3_renew 84 = .ok (.iload 4, 2) := by decide +kernel
theorem dX3_renew_86 : decode cX3_renew 86 = .ok (.iaload, 1) := by decide +kernel
theorem dX3_renew_87 : decode cX3_renew 87 = .ok (.iload 6, 2) := by decide +kernel
theorem dX3_renew_89 : decode cX3_renew 89 = .ok (.ishr, 1) := by decide +kernel
theorem dX3_renew_90 : decode cX3_renew 90 = .ok (.iconst 1, 1) := by decide +kernel
theorem dX3_renew_91 : decode cX3_renew 91 = .ok (.iand, 1) := by decide +kernel
theorem dX3_renew_92 : decode cX3_renew 92 = .ok (.iconst 1, 1) := by decide +kernel
theorem dX3_renew_93 : decode cX3_renew 93 = .ok (.if_icmp .ne 44, 3) := by decide +kernel
theorem dX3_renew_96 : decode cX3_renew 96 = .ok (.aload_n 0, 1) := by decide +kernel
theorem dX3_renew_97 : decode cX3_renew 97 = .ok (.getfield 7, 3) := by decide +kernel
theorem dX3_renew_100 : decode cX3_renew 100 = .ok (.iload_n 1, 1) := by decide +kernel
theorem dX3_renew_101 : decode cX3_renew 101 = .ok (.iconst 5, 1) := by decide +kernel
theorem dX3_renew_102 : decode cX3_renew 102 = .ok (.invokestatic 20, 3) := by decide +kernel
theorem dX3_renew_105 : decode cX3_renew 105 = .ok (.dup2, 1) := by decide +kernel
theorem dX3_renew_106 : decode cX3_renew 106 = .ok (.iaload, 1) := by decide +kernel
theorem dX3_renew_107 : decode cX3_renew 107 = .ok (.aload_n 0, 1) := by decide +kernel
theorem dX3_renew_108 : decode cX3_renew 108 = .ok (.getfield 7, 3) := by decide +kernel
theorem dX3_renew_111 : decode cX3_renew 111 = .ok (.bipush 82, 2) := by decide +kernel
theorem dX3_renew_113 : decode cX3_renew 113 = .ok (.iload_n 1, 1) := by decide +kernel
theorem dX3_renew_114 : decode cX3_renew 114 = .ok (.iload 6, 2) := by decide +kernel
theorem dX3_renew_116 : decode cX3_renew 116 = .ok (.invokestatic 32, 3) := by decide +kernel
theorem dX3_renew_119 : decode cX3_renew 119 = .ok (.iaload, 1) := by decide +kernel
theorem dX3_renew_120 : decode cX3_renew 120 = .ok (.ifCond .lt 7, 3) := by decide +kernel
theorem dX3_renew_123 : decode cX3_renew 123 = .ok (.iconst 1, 1) := by decide +kernel
theorem dX3_renew_124 : decode cX3_renew 124 = .ok (.goto 4, 3) := by decide +kernel
theorem dX3_renew_127 : decode cX3_renew 127 = .ok (.iconst 0, 1) := by decide +kernel
theorem dX3_renew_128 : decode cX3_renew 128 = .ok (.iadd, 1) := by decide +kernel
theorem dX3_renew_129 : decode cX3_renew 129 = .ok (.iastore, 1) := by decide +kernel
theorem dX3_renew_130 : decode cX3_renew 130 = .ok (.aload_n 0, 1) := by decide +kernel
theorem dX3_renew_131 : decode cX3_renew 131 = .ok (.iload_n 1, 1) := by decide +kernel
theorem dX3_renew_132 : decode cX3_renew 132 = .ok (.iload 6, 2) := by decide +kernel
theorem dX3_renew_134 : decode cX3_renew 134 = .ok (.invokevirtual 46, 3) := by decide +kernel
theorem dX3_renew_137 : decode cX3_renew 137 = .ok (.iinc 6 1, 3) := by decide +kernel
theorem dX3_renew_140 : decode cX3_renew 140 = .ok (.goto (-77), 3) := by decide +kernel
theorem dX3_renew_143 : decode cX3_renew 143 = .ok (.aload_n 0, 1) := by decide +kernel
theorem dX3_renew_144 : decode cX3_renew 144 = .ok (.getfield 7, 3) := by decide +kernel
theorem dX3_renew_147 : decode cX3_renew 147 = .ok (.iload 4, 2) := by decide +kernel
theorem dX3_renew_149 : decode cX3_renew 149 = .ok (.iconst 0, 1) := by decide +kernel
theorem dX3_renew_150 : decode cX3_renew 150 = .ok (.iastore, 1) := by decide +kernel
theorem dX3_renew_151 : decode cX3_renew 151 = .ok (.aload_n 0, 1) := by decide +kernel
theorem dX3_renew_152 : decode cX3_renew 152 = .ok (.getfield 7, 3) := by decide +kernel
theorem dX3_renew_155 : decode cX3_renew 155 = .ok (.iload_n 3, 1) := by decide +kernel
theorem dX3_renew_156 : decode cX3_renew 156 = .ok (.aload_n 0, 1) := by decide +kernel
theorem dX3_renew_157 : decode cX3_renew 157 = .ok (.getfield 7, 3) := by decide +kernel
theorem dX3_renew_160 : decode cX3_renew 160 = .ok (.iconst 0, 1) := by decide +kernel
theorem dX3_renew_161 : decode cX3_renew 161 = .ok (.iaload, 1) := by decide +kernel
theorem dX3_renew_162 : decode cX3_renew 162 = .ok (.aload_n 0, 1) := by decide +kernel
theorem dX3_renew_163 : decode cX3_renew 163 = .ok (.getfield 7, 3) := by decide +kernel
theorem dX3_renew_166 : decode cX3_renew 166 = .ok (.iconst 2, 1) := by decide +kernel
theorem dX3_renew_167 : decode cX3_renew 167 = .ok (.iaload, 1) := by decide +kernel
theorem dX3_renew_168 : decode cX3_renew 168 = .ok (.iadd, 1) := by decide +kernel
theorem dX3_renew_169 : decode cX3_renew 169 = .ok (.iastore, 1) := by decide +kernel
theorem dX3_renew_170 : decode cX3_renew 170 = .ok (.aload_n 0, 1) := by decide +kernel
theorem dX3_renew_171 : decode cX3_renew 171 = .ok (.getfield 7, 3) := by decide +kernel
theorem dX3_renew_174 : decode cX3_renew 174 = .ok (.sipush 308, 3) := by decide +kernel
theorem dX3_renew_177 : decode cX3_renew 177 = .ok (.dup2, 1) := by decide +kernel
theorem dX3_renew_178 : decode cX3_renew 178 = .ok (.iaload, 1) := by decide +kernel
theorem dX3_renew_179 : decode cX3_renew 179 = .ok (.iconst 1, 1) := by decide +kernel
theorem dX3_renew_180 : decode cX3_renew 180 = .ok (.iadd, 1) := by decide +kernel
theorem dX3_renew_181 : decode cX3_renew 181 = .ok (.iastore, 1) := by decide +kernel
theorem dX3_renew_182 : decode cX3_renew 182 = .ok (.return_, 1) := by decide +kernel
set_option maxRecDepth 20000 in
theorem ggX3_read_X3_isReader : GoodIn wsX3_read wsX3_isReader := goodIn_r _ [5, 6, 7, 4, 8] (by decide +kernel) (by decide +kernel)
set_option maxRecDepth 20000 in
theorem gX3_read_X3_isReader : GoodIn wsX3_read (va_wsS RX3 28 yX3_isReader wsX3_isReader) := goodIn_app (goodIn_of _ (by decide +kernel)) ggX3_read_X3_isReader
set_option maxRecDepth 20000 in
theorem ggX3_read_X3_isThing : GoodIn wsX3_read wsX3_isThing := goodIn_r _ [11, 6, 7, 4, 8] (by decide +kernel) (by decide +kernel)
set_option maxRecDepth 20000 in
theorem gX3_read_X3_isThing : GoodIn wsX3_read (va_wsS RX3 60 yX3_isThing wsX3_isThing) := goodIn_app (goodIn_of _ (by decide +kernel)) ggX3_read_X3_isThing
set_option maxRecDepth 20000 in
theorem ggX3_read_X3_thingAt : GoodIn wsX3_read wsX3_thingAt := goodIn_r _ [14] (by decide +kernel) (by decide +kernel)
set_option maxRecDepth 20000 in
theorem gX3_read_X3_thingAt : GoodIn wsX3_read (va_wsS RX3 32 yX3_thingAt wsX3_thingAt) := goodIn_app (goodIn_of _ (by decide +kernel)) ggX3_read_X3_thingAt
set_option maxRecDepth 20000 in
theorem ggX3_read_X3_volumeAt : GoodIn wsX3_read wsX3_volumeAt := goodIn_r _ [17] (by decide +kernel) (by decide +kernel)
set_option maxRecDepth 20000 in
theorem gX3_read_X3_volumeAt : GoodIn wsX3_read (va_wsS RX3 40 yX3_volumeAt wsX3_volumeAt) := goodIn_app (goodIn_of _ (by decide +kernel)) ggX3_read_X3_volumeAt
set_option maxRecDepth 20000 in
theorem ggX3_read_X3_canUse : GoodIn wsX3_read wsX3_canUse := goodIn_r _ [21, 1, 12, 13, 4, 14, 22, 23, 24, 25, 15, 16, 17, 41, 42, 43] (by decide +kernel) (by decide +kernel)
set_option maxRecDepth 20000 in
theorem gX3_read_X3_canUse : GoodIn wsX3_read (wsV RX3 71 RX3 yX3_canUse wsX3_canUse) := goodIn_app (goodIn_of _ (by decide +kernel)) ggX3_read_X3_canUse
set_option maxRecDepth 20000 in
theorem ggX3_read_X3_said : GoodIn wsX3_read wsX3_said := goodIn_r _ [28] (by decide +kernel) (by decide +kernel)
set_option maxRecDepth 20000 in
theorem gX3_read_X3_said : GoodIn wsX3_read (va_wsS RX3 20 yX3_said wsX3_said) := goodIn_app (goodIn_of _ (by decide +kernel)) ggX3_read_X3_said
set_option maxRecDepth 20000 in
theorem ggX3_read_X3_addCause : GoodIn wsX3_read wsX3_addCause := goodIn_r _ [32, 1, 41, 42, 43] (by decide +kernel) (by decide +kernel)
set_option maxRecDepth 20000 in
theorem gX3_read_X3_addCause : GoodIn wsX3_read (wsV RX3 74 RX3 yX3_addCause wsX3_addCause) := goodIn_app (goodIn_of _ (by decide +kernel)) ggX3_read_X3_addCause
set_option maxRecDepth 20000 in
theorem ggX3_read_X3_isOver : GoodIn wsX3_read wsX3_isOver := goodIn_r _ [25, 1, 41, 42, 43] (by decide +kernel) (by decide +kernel)
set_option maxRecDepth 20000 in
theorem gX3_read_X3_isOver : GoodIn wsX3_read (wsV RX3 36 RX3 yX3_isOver wsX3_isOver) := goodIn_app (goodIn_of _ (by decide +kernel)) ggX3_read_X3_isOver
set_option maxRecDepth 20000 in
theorem ggX3_read_X3_renew : GoodIn wsX3_read wsX3_renew := goodIn_r _ [36, 1, 15, 16, 4, 17, 26, 27, 28, 12, 13, 14, 37, 38, 39, 40, 41, 42, 43] (by decide +kernel) (by decide +kernel)
set_option maxRecDepth 20000 in
theorem gX3_read_X3_renew : GoodIn wsX3_read (wsV RX3 78 RX3 yX3_renew wsX3_renew) := goodIn_app (goodIn_of _ (by decide +kernel)) ggX3_read_X3_renew
theorem dX3_read_0 : decode cX3_read 0 = .ok (.iload_n 1, 1) := by decide +kernel
theorem dX3_read_1 : decode cX3_read 1 = .ok (.invokestatic 28, 3) := by decide +kernel
theorem dX3_read_4 : decode cX3_read 4 = .ok (.ifCond .eq 10, 3) := by decide +kernel
theorem dX3_read_7 : decode cX3_read 7 = .ok (.iload_n 2, 1) := by decide +kernel
theorem dX3_read_8 : decode cX3_read 8 = .ok (.invokestatic 60, 3) := by decide +kernel
theorem dX3_read_11 : decode cX3_read 11 = .ok (.ifCond .ne 5, 3) := by decide +kernel
theorem dX3_read_14 : decode cX3_read 14 = .ok (.iconst (-1), 1) := by decide +kernel
theorem dX3_read_15 : decode cX3_read 15 = .ok (.ireturn, 1) := by decide +kernel
theorem dX3_read_16 : decode cX3_read 16 = .ok (.aload_n 0, 1) := by decide +kernel
theorem dX3_read_17 : decode cX3_read 17 = .ok (.getfield 7, 3) := by decide +kernel
theorem dX3_read_20 : decode cX3_read 20 = .ok (.bipush 82, 2) := by decide +kernel
theorem dX3_read_22 : decode cX3_read 22 = .ok (.iload_n 1, 1) := by decide +kernel
theorem dX3_read_23 : decode cX3_read 23 = .ok (.iload_n 2, 1) := by decide +kernel
theorem dX3_read_24 : decode cX3_read 24 = .ok (.invokestatic 32, 3) := by decide +kernel
theorem dX3_read_27 : decode cX3_read 27 = .ok (.iaload, 1) := by decide +kernel
theorem dX3_read_28 : decode cX3_read 28 = .ok (.istore_n 3, 1) := by decide +kernel
theorem dX3_read_29 : decode cX3_read 29 = .ok (.aload_n 0, 1) := by decide +kernel
theorem dX3_read_30 : decode cX3_read 30 = .ok (.getfield 7, 3) := by decide +kernel
theorem dX3_read_33 : decode cX3_read 33 = .ok (.bipush 52, 2) := by decide +kernel
theorem dX3_read_35 : decode cX3_read 35 = .ok (.iload_n 1, 1) := by decide +kernel
theorem dX3_read_36 : decode cX3_read 36 = .ok (.iload_n 2, 1) := by decide +kernel
theorem dX3_read_37 : decode cX3_read 37 = .ok (.invokestatic 40, 3) := by decide +kernel
theorem dX3_read_40 : decode cX3_read 40 = .ok (.iaload, 1) := by decide +kernel
theorem dX3_read_41 : decode cX3_read 41 = .ok (.istore 4, 2) := by decide +kernel
theorem dX3_read_43 : decode cX3_read 43 = .ok (.aload_n 0, 1) := by decide +kernel
theorem dX3_read_44 : decode cX3_read 44 = .ok (.iload_n 1, 1) := by decide +kernel
theorem dX3_read_45 : decode cX3_read 45 = .ok (.iload_n 2, 1) := by decide +kernel
theorem dX3_read_46 : decode cX3_read 46 = .ok (.invokevirtual 71, 3) := by decide +kernel
theorem dX3_read_49 : decode cX3_read 49 = .ok (.ifCond .eq 79, 3) := by decide +kernel
theorem dX3_read_52 : decode cX3_read 52 = .ok (.aload_n 0, 1) := by decide +kernel
theorem dX3_read_53 : decode cX3_read 53 = .ok (.getfield 7, 3) := by decide +kernel
theorem dX3_read_56 : decode cX3_read 56 = .ok (.iload_n 1, 1) := by decide +kernel
theorem dX3_read_57 : decode cX3_read 57 = .ok (.iconst 0, 1) := by decide +kernel
theorem dX3_read_58 : decode cX3_read 58 = .ok (.invokestatic 20, 3) := by decide +kernel
theorem dX3_read_61 : decode cX3_read 61 = .ok (.iload_n 3, 1) := by decide +kernel
theorem dX3_read_62 : decode cX3_read 62 = .ok (.iastore, 1) := by decide +kernel
theorem dX3_read_63 : decode cX3_read 63 = .ok (.aload_n 0, 1) := by decide +kernel
theorem dX3_read_64 : decode cX3_read 64 = .ok (.getfield 7, 3) := by decide +kernel
theorem dX3_read_67 : decode cX3_read 67 = .ok (.iload_n 1, 1) := by decide +kernel
theorem dX3_read_68 : decode cX3_read 68 = .ok (.iconst 1, 1) := by decide +kernel
theorem dX3_read_69 : decode cX3_read 69 = .ok (.invokestatic 20, 3) := by decide +kernel
theorem dX3_read_72 : decode cX3_read 72 = .ok (.dup2, 1) := by decide +kernel
theorem dX3_read_73 : decode cX3_read 73 = .ok (.iaload, 1) := by decide +kernel
theorem dX3_read_74 : decode cX3_read 74 = .ok (.iconst 1, 1) := by decide +kernel
theorem dX3_read_75 : decode cX3_read 75 = .ok (.iadd, 1) := by decide +kernel
theorem dX3_read_76 : decode cX3_read 76 = .ok (.iastore, 1) := by decide +kernel
theorem dX3_read_77 : decode cX3_read 77 = .ok (.iload_n 3, 1) := by decide +kernel
theorem dX3_read_78 : decode cX3_read 78 = .ok (.aload_n 0, 1) := by decide +kernel
theorem dX3_read_79 : decode cX3_read 79 = .ok (.getfield 7, 3) := by decide +kernel
theorem dX3_read_82 : decode cX3_read 82 = .ok (.iconst 5, 1) := by decide +kernel
theorem dX3_read_83 : decode cX3_read 83 = .ok (.iload_n 2, 1) := by decide +kernel
theorem dX3_read_84 : decode cX3_read 84 = .ok (.iadd, 1) := by decide +kernel
theorem dX3_read_85 : decode cX3_read 85 = .ok (.iaload, 1) := by decide +kernel
theorem dX3_read_86 : decode cX3_read 86 = .ok (.if_icmp .eq 7, 3) := by decide +kernel
theorem dX3_read_89 : decode cX3_read 89 = .ok (.iconst 1, 1) := by decide +kernel
theorem dX3_read_90 : decode cX3_read 90 = .ok (.goto 4, 3) := by decide +kernel
theorem dX3_read_93 : decode cX3_read 93 = .ok (.iconst 0, 1) := by decide +kernel
theorem dX3_read_94 : decode cX3_read 94 = .ok (.istore 5, 2) := by decide +kernel
theorem dX3_read_96 : decode cX3_read 96 = .ok (.aload_n 0, 1) := by decide +kernel
theorem dX3_read_97 : decode cX3_read 97 = .ok (.getfield 7, 3) := by decide +kernel
theorem dX3_read_100 : decode cX3_read 100 = .ok (.sipush 303, 3) := by decide +kernel
theorem dX3_read_103 : decode cX3_read 103 = .ok (.dup2, 1) := by decide +kernel
theorem dX3_read_104 : decode cX3_read 104 = .ok (.iaload, 1) := by decide +kernel
theorem dX3_read_105 : decode cX3_read 105 = .ok (.iload 5, 2) := by decide +kernel
theorem dX3_read_107 : decode cX3_read 107 = .ok (.ifCond .eq 7, 3) := by decide +kernel
theorem dX3_read_110 : decode cX3_read 110 = .ok (.iconst 1, 1) := by decide +kernel
theorem dX3_read_111 : decode cX3_read 111 = .ok (.goto 4, 3) := by decide +kernel
theorem dX3_read_114 : decode cX3_read 114 = .ok (.iconst 0, 1) := by decide +kernel
theorem dX3_read_115 : decode cX3_read 115 = .ok (.iadd, 1) := by decide +kernel
theorem dX3_read_116 : decode cX3_read 116 = .ok (.iastore, 1) := by decide +kernel
theorem dX3_read_117 : decode cX3_read 117 = .ok (.iload 5, 2) := by decide +kernel
theorem dX3_read_119 : decode cX3_read 119 = .ok (.ifCond .eq 7, 3) := by decide +kernel
theorem dX3_read_122 : decode cX3_read 122 = .ok (.iconst 1, 1) := by decide +kernel
theorem dX3_read_123 : decode cX3_read 123 = .ok (.goto 4, 3) := by decide +kernel
theorem dX3_read_126 : decode cX3_read 126 = .ok (.iconst 0, 1) := by decide +kernel
theorem dX3_read_127 : decode cX3_read 127 = .ok (.ireturn, 1) := by decide +kernel
theorem dX3_read_128 : decode cX3_read 128 = .ok (.aload_n 0, 1) := by decide +kernel
theorem dX3_read_129 : decode cX3_read 129 = .ok (.getfield 7, 3) := by decide +kernel
theorem dX3_read_132 : decode cX3_read 132 = .ok (.sipush 296, 3) := by decide +kernel
theorem dX3_read_135 : decode cX3_read 135 = .ok (.iconst 0, 1) := by decide +kernel
theorem dX3_read_136 : decode cX3_read 136 = .ok (.iastore, 1) := by decide +kernel
theorem dX3_read_137 : decode cX3_read 137 = .ok (.aload_n 0, 1) := by decide +kernel
theorem dX3_read_138 : decode cX3_read 138 = .ok (.aload_n 0, 1) := by decide +kernel
theorem dX3_read_139 : decode cX3_read 139 = .ok (.getfield 7, 3) := by decide +kernel
theorem dX3_read_142 : decode cX3_read 142 = .ok (.bipush 42, 2) := by decide +kernel
theorem dX3_read_144 : decode cX3_read 144 = .ok (.iload_n 1, 1) := by decide +kernel
theorem dX3_read_145 : decode cX3_read 145 = .ok (.iadd, 1) := by decide +kernel
theorem dX3_read_146 : decode cX3_read 146 = .ok (.iaload, 1) := by decide +kernel
theorem dX3_read_147 : decode cX3_read 147 = .ok (.ifCond .ne 7, 3) := by decide +kernel
theorem dX3_read_150 : decode cX3_read 150 = .ok (.iconst 1, 1) := by decide +kernel
theorem dX3_read_151 : decode cX3_read 151 = .ok (.goto 4, 3) := by decide +kernel
theorem dX3_read_154 : decode cX3_read 154 = .ok (.iconst 0, 1) := by decide +kernel
theorem dX3_read_155 : decode cX3_read 155 = .ok (.iconst 1, 1) := by decide +kernel
theorem dX3_read_156 : decode cX3_read 156 = .ok (.invokevirtual 74, 3) := by decide +kernel
theorem dX3_read_159 : decode cX3_read 159 = .ok (.aload_n 0, 1) := by decide +kernel
theorem dX3_read_160 : decode cX3_read 160 = .ok (.aload_n 0, 1) := by decide +kernel
theorem dX3_read_161 : decode cX3_read 161 = .ok (.iload_n 1, 1) := by decide +kernel
theorem dX3_read_162 : decode cX3_read 162 = .ok (.iload 4, 2) := by decide +kernel
theorem dX3_read_164 : decode cX3_read 164 = .ok (.invokevirtual 36, 3) := by decide +kernel
theorem dX3_read_167 : decode cX3_read 167 = .ok (.iconst 2, 1) := by decide +kernel
theorem dX3_read_168 : decode cX3_read 168 = .ok (.invokevirtual 74, 3) := by decide +kernel
theorem dX3_read_171 : decode cX3_read 171 = .ok (.aload_n 0, 1) := by decide +kernel
theorem dX3_read_172 : decode cX3_read 172 = .ok (.aload_n 0, 1) := by decide +kernel
theorem dX3_read_173 : decode cX3_read 173 = .ok (.iload_n 1, 1) := by decide +kernel
theorem dX3_read_174 : decode cX3_read 174 = .ok (.aload_n 0, 1) := by decide +kernel
theorem dX3_read_175 : decode cX3_read 175 = .ok (.getfield 7, 3) := by decide +kernel
theorem dX3_read_178 : decode cX3_read 178 = .ok (.sipush 142, 3) := by decide +kernel
theorem dX3_read_181 : decode cX3_read 181 = .ok (.iload_n 1, 1) := by decide +kernel
theorem dX3_read_182 : decode cX3_read 182 = .ok (.iload_n 2, 1) := by decide +kernel
theorem dX3_read_183 : decode cX3_read 183 = .ok (.invokestatic 32, 3) := by decide +kernel
theorem dX3_read_186 : decode cX3_read 186 = .ok (.iaload, 1) := by decide +kernel
theorem dX3_read_187 : decode cX3_read 187 = .ok (.invokevirtual 36, 3) := by decide +kernel
theorem dX3_read_190 : decode cX3_read 190 = .ok (.iconst 3, 1) := by decide +kernel
theorem dX3_read_191 : decode cX3_read 191 = .ok (.invokevirtual 74, 3) := by decide +kernel
theorem dX3_read_194 : decode cX3_read 194 = .ok (.aload_n 0, 1) := by decide +kernel
theorem dX3_read_195 : decode cX3_read 195 = .ok (.iload_n 3, 1) := by decide +kernel
theorem dX3_read_196 : decode cX3_read 196 = .ok (.ifCond .ge 7, 3) := by decide +kernel
theorem dX3_read_199 : decode cX3_read 199 = .ok (.iconst 1, 1) := by decide +kernel
theorem dX3_read_200 : decode cX3_read 200 = .ok (.goto 4, 3) := by decide +kernel
theorem dX3_read_203 : decode cX3_read 203 = .ok (.iconst 0, 1) := by decide +kernel
theorem dX3_read_204 : decode cX3_read 204 = .ok (.iconst 4, 1) := by decide +kernel
theorem dX3_read_205 : decode cX3_read 205 = .ok (.invokevirtual 74, 3) := by decide +kernel
theorem dX3_read_208 : decode cX3_read 208 = .ok (.aload_n 0, 1) := by decide +kernel
theorem dX3_read_209 : decode cX3_read 209 = .ok (.getfield 7, 3) := by decide +kernel
theorem dX3_read_212 : decode cX3_read 212 = .ok (.bipush 42, 2) := by decide +kernel
theorem dX3_read_214 : decode cX3_read 214 = .ok (.iload_n 1, 1) := by decide +kernel
theorem dX3_read_215 : decode cX3_read 215 = .ok (.iadd, 1) := by decide +kernel
theorem dX3_read_216 : decode cX3_read 216 = .ok (.iaload, 1) := by decide +kernel
theorem dX3_read_217 : decode cX3_read 217 = .ok (.ifCond .ne 19, 3) := by decide +kernel
theorem dX3_read_220 : decode cX3_read 220 = .ok (.aload_n 0, 1) := by decide +kernel
theorem dX3_read_221 : decode cX3_read 221 = .ok (.getfield 7, 3) := by decide +kernel
theorem dX3_read_224 : decode cX3_read 224 = .ok (.iload_n 1, 1) := by decide +kernel
theorem dX3_read_225 : decode cX3_read 225 = .ok (.iconst 3, 1) := by decide +kernel
theorem dX3_read_226 : decode cX3_read 226 = .ok (.invokestatic 20, 3) := by decide +kernel
theorem dX3_read_229 : decode cX3_read 229 = .ok (.dup2, 1) := by decide +kernel
theorem dX3_read_230 : decode cX3_read 230 = .ok (.iaload, 1) := by decide +kernel
theorem dX3_read_231 : decode cX3_read 231 = .ok (.iconst 1, 1) := by decide +kernel
theorem dX3_read_232 : decode cX3_read 232 = .ok (.iadd, 1) := by decide +kernel
theorem dX3_read_233 : decode cX3_read 233 = .ok (.iastore, 1) := by decide +kernel
theorem dX3_read_234 : decode cX3_read 234 = .ok (.iconst 4, 1) := by decide +kernel
theorem dX3_read_235 : decode cX3_read 235 = .ok (.ireturn, 1) := by decide +kernel
theorem dX3_read_236 : decode cX3_read 236 = .ok (.aload_n 0, 1) := by decide +kernel
theorem dX3_read_237 : decode cX3_read 237 = .ok (.getfield 7, 3) := by decide +kernel
theorem dX3_read_240 : decode cX3_read 240 = .ok (.iload_n 1, 1) := by decide +kernel
theorem dX3_read_241 : decode cX3_read 241 = .ok (.iconst 2, 1) := by decide +kernel
theorem dX3_read_242 : decode cX3_read 242 = .ok (.invokestatic 20, 3) := by decide +kernel
theorem dX3_read_245 : decode cX3_read 245 = .ok (.dup2, 1) := by decide +kernel
theorem dX3_read_246 : decode cX3_read 246 = .ok (.iaload, 1) := by decide +kernel
theorem dX3_read_247 : decode cX3_read 247 = .ok (.iconst 1, 1) := by decide +kernel
theorem dX3_read_248 : decode cX3_read 248 = .ok (.iadd, 1) := by decide +kernel
theorem dX3_read_249 : decode cX3_read 249 = .ok (.iastore, 1) := by decide +kernel
theorem dX3_read_250 : decode cX3_read 250 = .ok (.aload_n 0, 1) := by decide +kernel
theorem dX3_read_251 : decode cX3_read 251 = .ok (.iload_n 1, 1) := by decide +kernel
theorem dX3_read_252 : decode cX3_read 252 = .ok (.iload 4, 2) := by decide +kernel
theorem dX3_read_254 : decode cX3_read 254 = .ok (.invokevirtual 36, 3) := by decide +kernel
theorem dX3_read_257 : decode cX3_read 257 = .ok (.ifCond .ne 14, 3) := by decide +kernel
theorem dX3_read_260 : decode cX3_read 260 = .ok (.iload 4, 2) := by decide +kernel
theorem dX3_read_262 : decode cX3_read 262 = .ok (.aload_n 0, 1) := by decide +kernel
theorem dX3_read_263 : decode cX3_read 263 = .ok (.getfield 7, 3) := by decide +kernel
theorem dX3_read_266 : decode cX3_read 266 = .ok (.iconst 0, 1) := by decide +kernel
theorem dX3_read_267 : decode cX3_read 267 = .ok (.iaload, 1) := by decide +kernel
theorem dX3_read_268 : decode cX3_read 268 = .ok (.if_icmp .gt 9, 3) := by decide +kernel
theorem dX3_read_271 : decode cX3_read 271 = .ok (.aload_n 0, 1) := by decide +kernel
theorem dX3_read_272 : decode cX3_read 272 = .ok (.iload_n 1, 1) := by decide +kernel
theorem dX3_read_273 : decode cX3_read 273 = .ok (.iload_n 2, 1) := by decide +kernel
theorem dX3_read_274 : decode cX3_read 274 = .ok (.invokevirtual 78, 3) := by decide +kernel
theorem dX3_read_277 : decode cX3_read 277 = .ok (.aload_n 0, 1) := by decide +kernel
theorem dX3_read_278 : decode cX3_read 278 = .ok (.getfield 7, 3) := by decide +kernel
theorem dX3_read_281 : decode cX3_read 281 = .ok (.iload_n 1, 1) := by decide +kernel
theorem dX3_read_282 : decode cX3_read 282 = .ok (.iconst 0, 1) := by decide +kernel
theorem dX3_read_283 : decode cX3_read 283 = .ok (.invokestatic 20, 3) := by decide +kernel
theorem dX3_read_286 : decode cX3_read 286 = .ok (.aload_n 0, 1) := by decide +kernel
theorem dX3_read_287 : decode cX3_read 287 = .ok (.getfield 7, 3) := by decide +kernel
theorem dX3_read_290 : decode cX3_read 290 = .ok (.iconst 5, 1) := by decide +kernel
theorem dX3_read_291 : decode cX3_read 291 = .ok (.iload_n 2, 1) := by decide +kernel
theorem dX3_read_292 : decode cX3_read 292 = .ok (.iadd, 1) := by decide +kernel
theorem dX3_read_293 : decode cX3_read 293 = .ok (.iaload, 1) := by decide +kernel
theorem dX3_read_294 : decode cX3_read 294 = .ok (.iastore, 1) := by decide +kernel
theorem dX3_read_295 : decode cX3_read 295 = .ok (.aload_n 0, 1) := by decide +kernel
theorem dX3_read_296 : decode cX3_read 296 = .ok (.getfield 7, 3) := by decide +kernel
theorem dX3_read_299 : decode cX3_read 299 = .ok (.bipush 17, 2) := by decide +kernel
theorem dX3_read_301 : decode cX3_read 301 = .ok (.iload_n 2, 1) := by decide +kernel
theorem dX3_read_302 : decode cX3_read 302 = .ok (.iadd, 1) := by decide +kernel
theorem dX3_read_303 : decode cX3_read 303 = .ok (.iaload, 1) := by decide +kernel
theorem dX3_read_304 : decode cX3_read 304 = .ok (.ifCond .lt 5, 3) := by decide +kernel
theorem dX3_read_307 : decode cX3_read 307 = .ok (.iconst 3, 1) := by decide +kernel
theorem dX3_read_308 : decode cX3_read 308 = .ok (.ireturn, 1) := by decide +kernel
theorem dX3_read_309 : decode cX3_read 309 = .ok (.aload_n 0, 1) := by decide +kernel
theorem dX3_read_310 : decode cX3_read 310 = .ok (.getfield 7, 3) := by decide +kernel
theorem dX3_read_313 : decode cX3_read 313 = .ok (.bipush 82, 2) := by decide +kernel
theorem dX3_read_315 : decode cX3_read 315 = .ok (.iload_n 1, 1) := by decide +kernel
theorem dX3_read_316 : decode cX3_read 316 = .ok (.iload_n 2, 1) := by decide +kernel
theorem dX3_read_317 : decode cX3_read 317 = .ok (.invokestatic 32, 3) := by decide +kernel
theorem dX3_read_320 : decode cX3_read 320 = .ok (.aload_n 0, 1) := by decide +kernel
theorem dX3_read_321 : decode cX3_read 321 = .ok (.getfield 7, 3) := by decide +kernel
theorem dX3_read_324 : decode cX3_read 324 = .ok (.iconst 5, 1) := by decide +kernel
theorem dX3_read_325 : decode cX3_read 325 = .ok (.iload_n 2, 1) := by decide +kernel
theorem dX3_read_326 : decode cX3_read 326 = .ok (.iadd, 1) := by decide +kernel
theorem dX3_read_327 : decode cX3_read 327 = .ok (.iaload, 1) := by decide +kernel
theorem dX3_read_328 : decode cX3_read 328 = .ok (.iastore, 1) := by decide +kernel
theorem dX3_read_329 : decode cX3_read 329 = .ok (.aload_n 0, 1) := by decide +kernel
theorem dX3_read_330 : decode cX3_read 330 = .ok (.getfield 7, 3) := by decide +kernel
theorem dX3_read_333 : decode cX3_read 333 = .ok (.sipush 142, 3) := by decide +kernel
theorem dX3_read_336 : decode cX3_read 336 = .ok (.iload_n 1, 1) := by decide +kernel
theorem dX3_read_337 : decode cX3_read 337 = .ok (.iload_n 2, 1) := by decide +kernel
theorem dX3_read_338 : decode cX3_read 338 = .ok (.invokestatic 32, 3) := by decide +kernel
theorem dX3_read_341 : decode cX3_read 341 = .ok (.aload_n 0, 1) := by decide +kernel
theorem dX3_read_342 : decode cX3_read 342 = .ok (.getfield 7, 3) := by decide +kernel
theorem dX3_read_345 : decode cX3_read 345 = .ok (.iconst 0, 1) := by decide +kernel
theorem dX3_read_346 : decode cX3_read 346 = .ok (.iaload, 1) := by decide +kernel
theorem dX3_read_347 : decode cX3_read 347 = .ok (.aload_n 0, 1) := by decide +kernel
theorem dX3_read_348 : decode cX3_read 348 = .ok (.getfield 7, 3) := by decide +kernel
theorem dX3_read_351 : decode cX3_read 351 = .ok (.iconst 1, 1) := by decide +kernel
theorem dX3_read_352 : decode cX3_read 352 = .ok (.iaload, 1) := by decide +kernel
theorem dX3_read_353 : decode cX3_read 353 = .ok (.iadd, 1) := by decide +kernel
theorem dX3_read_354 : decode cX3_read 354 = .ok (.iastore, 1) := by decide +kernel
theorem dX3_read_355 : decode cX3_read 355 = .ok (.aload_n 0, 1) := by decide +kernel
theorem dX3_read_356 : decode cX3_read 356 = .ok (.getfield 7, 3) := by decide +kernel
theorem dX3_read_359 : decode cX3_read 359 = .ok (.sipush 202, 3) := by decide +kernel
theorem dX3_read_362 : decode cX3_read 362 = .ok (.iload_n 1, 1) := by decide +kernel
theorem dX3_read_363 : decode cX3_read 363 = .ok (.iload_n 2, 1) := by decide +kernel
theorem dX3_read_364 : decode cX3_read 364 = .ok (.invokestatic 32, 3) := by decide +kernel
theorem dX3_read_367 : decode cX3_read 367 = .ok (.aload_n 0, 1) := by decide +kernel
theorem dX3_read_368 : decode cX3_read 368 = .ok (.getfield 7, 3) := by decide +kernel
theorem dX3_read_371 : decode cX3_read 371 = .ok (.iconst 0, 1) := by decide +kernel
theorem dX3_read_372 : decode cX3_read 372 = .ok (.iaload, 1) := by decide +kernel
theorem dX3_read_373 : decode cX3_read 373 = .ok (.aload_n 0, 1) := by decide +kernel
theorem dX3_read_374 : decode cX3_read 374 = .ok (.getfield 7, 3) := by decide +kernel
theorem dX3_read_377 : decode cX3_read 377 = .ok (.iconst 1, 1) := by decide +kernel
theorem dX3_read_378 : decode cX3_read 378 = .ok (.iaload, 1) := by decide +kernel
theorem dX3_read_379 : decode cX3_read 379 = .ok (.iadd, 1) := by decide +kernel
theorem dX3_read_380 : decode cX3_read 380 = .ok (.iastore, 1) := by decide +kernel
theorem dX3_read_381 : decode cX3_read 381 = .ok (.iconst 2, 1) := by decide +kernel
theorem dX3_read_382 : decode cX3_read 382 = .ok (.ireturn, 1) := by decide +kernel
set_option maxRecDepth 20000 in
theorem ggX3_cause_X3_in : GoodIn wsX3_cause wsX3_in := goodIn_r _ [5] (by decide +kernel) (by decide +kernel)
set_option maxRecDepth 20000 in
theorem gX3_cause_X3_in : GoodIn wsX3_cause (va_wsS RX3 24 yX3_in wsX3_in) := goodIn_app (goodIn_of _ (by decide +kernel)) ggX3_cause_X3_in
theorem dX3_cause_0 : decode cX3_cause 0 = .ok (.iload_n 1, 1) := by decide +kernel
theorem dX3_cause_1 : decode cX3_cause 1 = .ok (.iconst 0, 1) := by decide +kernel
theorem dX3_cause_2 : decode cX3_cause 2 = .ok (.aload_n 0, 1) := by decide +kernel
theorem dX3_cause_3 : decode cX3_cause 3 = .ok (.getfield 7, 3) := by decide +kernel
theorem dX3_cause_6 : decode cX3_cause 6 = .ok (.sipush 296, 3) := by decide +kernel
theorem dX3_cause_9 : decode cX3_cause 9 = .ok (.iaload, 1) := by decide +kernel
theorem dX3_cause_10 : decode cX3_cause 10 = .ok (.iconst 1, 1) := by decide +kernel
theorem dX3_cause_11 : decode cX3_cause 11 = .ok (.isub, 1) := by decide +kernel
theorem dX3_cause_12 : decode cX3_cause 12 = .ok (.invokestatic 24, 3) := by decide +kernel
theorem dX3_cause_15 : decode cX3_cause 15 = .ok (.ifCond .eq 16, 3) := by decide +kernel
theorem dX3_cause_18 : decode cX3_cause 18 = .ok (.aload_n 0, 1) := by decide +kernel
theorem dX3_cause_19 : decode cX3_cause 19 = .ok (.getfield 7, 3) := by decide +kernel
theorem dX3_cause_22 : decode cX3_cause 22 = .ok (.sipush 292, 3) := by decide +kernel
theorem dX3_cause_25 : decode cX3_cause 25 = .ok (.iload_n 1, 1) := by decide +kernel
theorem dX3_cause_26 : decode cX3_cause 26 = .ok (.iadd, 1) := by decide +kernel
theorem dX3_cause_27 : decode cX3_cause 27 = .ok (.iaload, 1) := by decide +kernel
theorem dX3_cause_28 : decode cX3_cause 28 = .ok (.goto 5, 3) := by decide +kernel
theorem dX3_cause_31 : decode cX3_cause 31 = .ok (.bipush (-6), 2) := by decide +kernel
theorem dX3_cause_33 : decode cX3_cause 33 = .ok (.ireturn, 1) := by decide +kernel
set_option maxRecDepth 20000 in
theorem ggX3_waited_X3_in : GoodIn wsX3_waited wsX3_in := goodIn_r _ [5] (by decide +kernel) (by decide +kernel)
set_option maxRecDepth 20000 in
theorem gX3_waited_X3_in : GoodIn wsX3_waited (va_wsS RX3 24 yX3_in wsX3_in) := goodIn_app (goodIn_of _ (by decide +kernel)) ggX3_waited_X3_in
theorem dX3_waited_0 : decode cX3_waited 0 = .ok (.iload_n 1, 1) := by decide +kernel
theorem dX3_waited_1 : decode cX3_waited 1 = .ok (.iconst 0, 1) := by decide +kernel
theorem dX3_waited_2 : decode cX3_waited 2 = .ok (.aload_n 0, 1) := by decide +kernel
theorem dX3_waited_3 : decode cX3_waited 3 = .ok (.getfield 7, 3) := by decide +kernel
theorem dX3_waited_6 : decode cX3_waited 6 = .ok (.sipush 302, 3) := by decide +kernel
theorem dX3_waited_9 : decode cX3_waited 9 = .ok (.iaload, 1) := by decide +kernel
theorem dX3_waited_10 : decode cX3_waited 10 = .ok (.iconst 1, 1) := by decide +kernel
theorem dX3_waited_11 : decode cX3_waited 11 = .ok (.isub, 1) := by decide +kernel
theorem dX3_waited_12 : decode cX3_waited 12 = .ok (.invokestatic 24, 3) := by decide +kernel
theorem dX3_waited_15 : decode cX3_waited 15 = .ok (.ifCond .eq 16, 3) := by decide +kernel
theorem dX3_waited_18 : decode cX3_waited 18 = .ok (.aload_n 0, 1) := by decide +kernel
theorem dX3_waited_19 : decode cX3_waited 19 = .ok (.getfield 7, 3) := by decide +kernel
theorem dX3_waited_22 : decode cX3_waited 22 = .ok (.sipush 297, 3) := by decide +kernel
theorem dX3_waited_25 : decode cX3_waited 25 = .ok (.iload_n 1, 1) := by decide +kernel
theorem dX3_waited_26 : decode cX3_waited 26 = .ok (.iadd, 1) := by decide +kernel
theorem dX3_waited_27 : decode cX3_waited 27 = .ok (.iaload, 1) := by decide +kernel
theorem dX3_waited_28 : decode cX3_waited 28 = .ok (.goto 5, 3) := by decide +kernel
theorem dX3_waited_31 : decode cX3_waited 31 = .ok (.bipush (-6), 2) := by decide +kernel
theorem dX3_waited_33 : decode cX3_waited 33 = .ok (.ireturn, 1) := by decide +kernel
set_option maxRecDepth 20000 in
theorem ggX3_thing_X3_isThing : GoodIn wsX3_thing wsX3_isThing := goodIn_r _ [5, 6, 7, 4, 8] (by decide +kernel) (by decide +kernel)
set_option maxRecDepth 20000 in
theorem gX3_thing_X3_isThing : GoodIn wsX3_thing (va_wsS RX3 60 yX3_isThing wsX3_isThing) := goodIn_app (goodIn_of _ (by decide +kernel)) ggX3_thing_X3_isThing
set_option maxRecDepth 20000 in
theorem ggX3_thing_X3_in : GoodIn wsX3_thing wsX3_in := goodIn_r _ [8] (by decide +kernel) (by decide +kernel)
set_option maxRecDepth 20000 in
theorem gX3_thing_X3_in : GoodIn wsX3_thing (va_wsS RX3 24 yX3_in wsX3_in) := goodIn_app (goodIn_of _ (by decide +kernel)) ggX3_thing_X3_in
set_option maxRecDepth 20000 in
theorem ggX3_thing_X3_dueOf : GoodIn wsX3_thing wsX3_dueOf := goodIn_r _ [12, 1, 13, 14, 4, 15, 16, 17, 18, 31, 32, 33] (by decide +kernel) (by decide +kernel)
set_option maxRecDepth 20000 in
theorem gX3_thing_X3_dueOf : GoodIn wsX3_thing (wsV RX3 67 RX3 yX3_dueOf wsX3_dueOf) := goodIn_app (goodIn_of _ (by decide +kernel)) ggX3_thing_X3_dueOf
set_option maxRecDepth 20000 in
theorem ggX3_thing_X3_isHolder : GoodIn wsX3_thing wsX3_isHolder := goodIn_r _ [22, 1, 13, 14, 4, 15, 31, 32, 33] (by decide +kernel) (by decide +kernel)
set_option maxRecDepth 20000 in
theorem gX3_thing_X3_isHolder : GoodIn wsX3_thing (wsV RX3 43 RX3 yX3_isHolder wsX3_isHolder) := goodIn_app (goodIn_of _ (by decide +kernel)) ggX3_thing_X3_isHolder
set_option maxRecDepth 20000 in
theorem ggX3_thing_X3_thingAt : GoodIn wsX3_thing wsX3_thingAt := goodIn_r _ [15] (by decide +kernel) (by decide +kernel)
set_option maxRecDepth 20000 in
theorem gX3_thing_X3_thingAt : GoodIn wsX3_thing (va_wsS RX3 32 yX3_thingAt wsX3_thingAt) := goodIn_app (goodIn_of _ (by decide +kernel)) ggX3_thing_X3_thingAt
set_option maxRecDepth 20000 in
theorem ggX3_thing_X3_canUse : GoodIn wsX3_thing wsX3_canUse := goodIn_r _ [26, 1, 13, 14, 4, 15, 27, 28, 29, 30, 16, 17, 18, 31, 32, 33] (by decide +kernel) (by decide +kernel)
set_option maxRecDepth 20000 in
theorem gX3_thing_X3_canUse : GoodIn wsX3_thing (wsV RX3 71 RX3 yX3_canUse wsX3_canUse) := goodIn_app (goodIn_of _ (by decide +kernel)) ggX3_thing_X3_canUse
theorem dX3_thing_0 : decode cX3_thing 0 = .ok (.iload_n 1, 1) := by decide +kernel
theorem dX3_thing_1 : decode cX3_thing 1 = .ok (.invokestatic 60, 3) := by decide +kernel
theorem dX3_thing_4 : decode cX3_thing 4 = .ok (.ifCond .ne 5, 3) := by decide +kernel
theorem dX3_thing_7 : decode cX3_thing 7 = .ok (.iconst (-1), 1) := by decide +kernel
theorem dX3_thing_8 : decode cX3_thing 8 = .ok (.ireturn, 1) := by decide +kernel
theorem dX3_thing_9 : decode cX3_thing 9 = .ok (.iload_n 2, 1) := by decide +kernel
theorem dX3_thing_10 : decode cX3_thing 10 = .ok (.iconst 0, 1) := by decide +kernel
theorem dX3_thing_11 : decode cX3_thing 11 = .ok (.bipush 6, 2) := by decide +kernel
theorem dX3_thing_13 : decode cX3_thing 13 = .ok (.invokestatic 24, 3) := by decide +kernel
theorem dX3_thing_16 : decode cX3_thing 16 = .ok (.ifCond .ne 6, 3) := by decide +kernel
theorem dX3_thing_19 : decode cX3_thing 19 = .ok (.bipush (-2), 2) := by decide +kernel
theorem dX3_thing_21 : decode cX3_thing 21 = .ok (.ireturn, 1) := by decide +kernel
theorem dX3_thing_22 : decode cX3_thing 22 = .ok (.aload_n 0, 1) := by decide +kernel
theorem dX3_thing_23 : decode cX3_thing 23 = .ok (.getfield 7, 3) := by decide +kernel
theorem dX3_thing_26 : decode cX3_thing 26 = .ok (.bipush 17, 2) := by decide +kernel
theorem dX3_thing_28 : decode cX3_thing 28 = .ok (.iload_n 1, 1) := by decide +kernel
theorem dX3_thing_29 : decode cX3_thing 29 = .ok (.iadd, 1) := by decide +kernel
theorem dX3_thing_30 : decode cX3_thing 30 = .ok (.iaload, 1) := by decide +kernel
theorem dX3_thing_31 : decode cX3_thing 31 = .ok (.ifCond .lt 7, 3) := by decide +kernel
theorem dX3_thing_34 : decode cX3_thing 34 = .ok (.iconst 1, 1) := by decide +kernel
theorem dX3_thing_35 : decode cX3_thing 35 = .ok (.goto 4, 3) := by decide +kernel
theorem dX3_thing_38 : decode cX3_thing 38 = .ok (.iconst 0, 1) := by decide +kernel
theorem dX3_thing_39 : decode cX3_thing 39 = .ok (.istore_n 3, 1) := by decide +kernel
theorem dX3_thing_40 : decode cX3_thing 40 = .ok (.iload_n 2, 1) := by decide +kernel
theorem dX3_thing_41 : decode cX3_thing 41 = .ok (.iconst 4, 1) := by decide +kernel
theorem dX3_thing_42 : decode cX3_thing 42 = .ok (.if_icmp .ge 67, 3) := by decide +kernel
theorem dX3_thing_45 : decode cX3_thing 45 = .ok (.iload_n 2, 1) := by decide +kernel
theorem dX3_thing_46 : decode cX3_thing 46 = .ok (.ifCond .ne 14, 3) := by decide +kernel
theorem dX3_thing_49 : decode cX3_thing 49 = .ok (.aload_n 0, 1) := by decide +kernel
theorem dX3_thing_50 : decode cX3_thing 50 = .ok (.getfield 7, 3) := by decide +kernel
theorem dX3_thing_53 : decode cX3_thing 53 = .ok (.iconst 5, 1) := by decide +kernel
theorem dX3_thing_54 : decode cX3_thing 54 = .ok (.iload_n 1, 1) := by decide +kernel
theorem dX3_thing_55 : decode cX3_thing 55 = .ok (.iadd, 1) := by decide +kernel
theorem dX3_thing_56 : decode cX3_thing 56 = .ok (.iaload, 1) := by decide +kernel
theorem dX3_thing_57 : decode cX3_thing 57 = .ok (.goto 51, 3) := by decide +kernel
theorem dX3_thing_60 : decode cX3_thing 60 = .ok (.iload_n 2, 1) := by decide +kernel
theorem dX3_thing_61 : decode cX3_thing 61 = .ok (.iconst 1, 1) := by decide +kernel
theorem dX3_thing_62 : decode cX3_thing 62 = .ok (.if_icmp .ne 15, 3) := by decide +kernel
theorem dX3_thing_65 : decode cX3_thing 65 = .ok (.iload_n 3, 1) := by decide +kernel
theorem dX3_thing_66 : decode cX3_thing 66 = .ok (.ifCond .eq 7, 3) := by decide +kernel
theorem dX3_thing_69 : decode cX3_thing 69 = .ok (.iconst 1, 1) := by decide +kernel
theorem dX3_thing_70 : decode cX3_thing 70 = .ok (.goto 38, 3) := by decide +kernel
theorem dX3_thing_73 : decode cX3_thing 73 = .ok (.iconst 0, 1) := by decide +kernel
theorem dX3_thing_74 : decode cX3_thing 74 = .ok (.goto 34, 3) := by decide +kernel
theorem dX3_thing_77 : decode cX3_thing 77 = .ok (.iload_n 2, 1) := by decide +kernel
theorem dX3_thing_78 : decode cX3_thing 78 = .ok (.iconst 2, 1) := by decide +kernel
theorem dX3_thing_79 : decode cX3_thing 79 = .ok (.if_icmp .ne 15, 3) := by decide +kernel
theorem dX3_thing_82 : decode cX3_thing 82 = .ok (.aload_n 0, 1) := by decide +kernel
theorem dX3_thing_83 : decode cX3_thing 83 = .ok (.getfield 7, 3) := by decide +kernel
theorem dX3_thing_86 : decode cX3_thing 86 = .ok (.bipush 17, 2) := by decide +kernel
theorem dX3_thing_88 : decode cX3_thing 88 = .ok (.iload_n 1, 1) := by decide +kernel
theorem dX3_thing_89 : decode cX3_thing 89 = .ok (.iadd, 1) := by decide +kernel
theorem dX3_thing_90 : decode cX3_thing 90 = .ok (.iaload, 1) := by decide +kernel
theorem dX3_thing_91 : decode cX3_thing 91 = .ok (.goto 17, 3) := by decide +kernel
theorem dX3_thing_94 : decode cX3_thing 94 = .ok (.iload_n 3, 1) := by decide +kernel
theorem dX3_thing_95 : decode cX3_thing 95 = .ok (.ifCond .eq 11, 3) := by decide +kernel
theorem dX3_thing_98 : decode cX3_thing 98 = .ok (.aload_n 0, 1) := by decide +kernel
theorem dX3_thing_99 : decode cX3_thing 99 = .ok (.iload_n 1, 1) := by decide +kernel
theorem dX3_thing_100 : decode cX3_thing 100 = .ok (.invokevirtual 67, 3) := by decide +kernel
theorem dX3_thing_103 : decode cX3_thing 103 = .ok (.goto 5, 3) := by decide +kernel
theorem dX3_thing_106 : decode cX3_thing 106 = .ok (.bipush (-6), 2) := by decide +kernel
theorem dX3_thing_108 : decode cX3_thing 108 = .ok (.ireturn, 1) := by decide +kernel
theorem dX3_thing_109 : decode cX3_thing 109 = .ok (.iconst 0, 1) := by decide +kernel
theorem dX3_thing_110 : decode cX3_thing 110 = .ok (.istore 4, 2) := by decide +kernel
theorem dX3_thing_112 : decode cX3_thing 112 = .ok (.iconst 0, 1) := by decide +kernel
theorem dX3_thing_113 : decode cX3_thing 113 = .ok (.istore 5, 2) := by decide +kernel
theorem dX3_thing_115 : decode cX3_thing 115 = .ok (.iload 5, 2) := by decide +kernel
theorem dX3_thing_117 : decode cX3_thing 117 = .ok (.iconst 5, 1) := by decide +kernel
theorem dX3_thing_118 : decode cX3_thing 118 = .ok (.if_icmp .ge 80, 3) := by decide +kernel
theorem dX3_thing_121 : decode cX3_thing 121 = .ok (.iload_n 2, 1) := by decide +kernel
theorem dX3_thing_122 : decode cX3_thing 122 = .ok (.iconst 4, 1) := by decide +kernel
theorem dX3_thing_123 : decode cX3_thing 123 = .ok (.if_icmp .ne 13, 3) := by decide +kernel
theorem dX3_thing_126 : decode cX3_thing 126 = .ok (.aload_n 0, 1) := by decide +kernel
theorem dX3_thing_127 : decode cX3_thing 127 = .ok (.iload 5, 2) := by decide +kernel
theorem dX3_thing_129 : decode cX3_thing 129 = .ok (.iload_n 1, 1) := by decide +kernel
theorem dX3_thing_130 : decode cX3_thing 130 = .ok (.invokevirtual 43, 3) := by decide +kernel
theorem dX3_thing_133 : decode cX3_thing 133 = .ok (.goto 39, 3) := by decide +kernel
theorem dX3_thing_136 : decode cX3_thing 136 = .ok (.iload_n 2, 1) := by decide +kernel
theorem dX3_thing_137 : decode cX3_thing 137 = .ok (.iconst 5, 1) := by decide +kernel
theorem dX3_thing_138 : decode cX3_thing 138 = .ok (.if_icmp .ne 27, 3) := by decide +kernel
theorem dX3_thing_141 : decode cX3_thing 141 = .ok (.aload_n 0, 1) := by decide +kernel
theorem dX3_thing_142 : decode cX3_thing 142 = .ok (.getfield 7, 3) := by decide +kernel
theorem dX3_thing_145 : decode cX3_thing 145 = .ok (.bipush 82, 2) := by decide +kernel
theorem dX3_thing_147 : decode cX3_thing 147 = .ok (.iload 5, 2) := by decide +kernel
theorem dX3_thing_149 : decode cX3_thing 149 = .ok (.iload_n 1, 1) := by decide +kernel
theorem dX3_thing_150 : decode cX3_thing 150 = .ok (.invokestatic 32, 3) := by decide +kernel
theorem dX3_thing_153 : decode cX3_thing 153 = .ok (.iaload, 1) := by decide +kernel
theorem dX3_thing_154 : decode cX3_thing 154 = .ok (.ifCond .lt 7, 3) := by decide +kernel
theorem dX3_thing_157 : decode cX3_thing 157 = .ok (.iconst 1, 1) := by decide +kernel
theorem dX3_thing_158 : decode cX3_thing 158 = .ok (.goto 14, 3) := by decide +kernel
theorem dX3_thing_161 : decode cX3_thing 161 = .ok (.iconst 0, 1) := by decide +kernel
theorem dX3_thing_162 : decode cX3_thing 162 = .ok (.goto 10, 3) := by decide +kernel
theorem dX3_thing_165 : decode cX3_thing 165 = .ok (.aload_n 0, 1) := by decide +kernel
theorem dX3_thing_166 : decode cX3_thing 166 = .ok (.iload 5, 2) := by decide +kernel
theorem dX3_thing_168 : decode cX3_thing 168 = .ok (.iload_n 1, 1) := by decide +kernel
theorem dX3_thing_169 : decode cX3_thing 169 = .ok (.invokevirtual 71, 3) := by decide +kernel
theorem dX3_thing_172 : decode cX3_thing 172 = .ok (.istore 6, 2) := by decide +kernel
theorem dX3_thing_174 : decode cX3_thing 174 = .ok (.iload 4, 2) := by decide +kernel
theorem dX3_thing_176 : decode cX3_thing 176 = .ok (.iload 6, 2) := by decide +kernel
theorem dX3_thing_178 : decode cX3_thing 178 = .ok (.ifCond .eq 10, 3) := by decide +kernel
theorem dX3_thing_181 : decode cX3_thing 181 = .ok (.iconst 1, 1) := by decide +kernel
theorem dX3_thing_182 : decode cX3_thing 182 = .ok (.iload 5, 2) := by decide +kernel
theorem dX3_thing_184 : decode cX3_thing 184 = .ok (.ishl, 1) := by decide +kernel
theorem dX3_thing_185 : decode cX3_thing 185 = .ok (.goto 4, 3) := by decide +kernel
theorem dX3_thing_188 : decode cX3_thing 188 = .ok (.iconst 0, 1) := by decide +kernel
theorem dX3_thing_189 : decode cX3_thing 189 = .ok (.ior, 1) := by decide +kernel
theorem dX3_thing_190 : decode cX3_thing 190 = .ok (.istore 4, 2) := by decide +kernel
theorem dX3_thing_192 : decode cX3_thing 192 = .ok (.iinc 5 1, 3) := by decide +kernel
theorem dX3_thing_195 : decode cX3_thing 195 = .ok (.goto (-80), 3) := by decide +kernel
theorem dX3_thing_198 : decode cX3_thing 198 = .ok (.iload 4, 2) := by decide +kernel
theorem dX3_thing_200 : decode cX3_thing 200 = .ok (.ireturn, 1) := by decide +kernel
set_option maxRecDepth 20000 in
theorem ggX3_copy_X3_isReader : GoodIn wsX3_copy wsX3_isReader := goodIn_r _ [5, 6, 7, 4, 8] (by decide +kernel) (by decide +kernel)
set_option maxRecDepth 20000 in
theorem gX3_copy_X3_isReader : GoodIn wsX3_copy (va_wsS RX3 28 yX3_isReader wsX3_isReader) := goodIn_app (goodIn_of _ (by decide +kernel)) ggX3_copy_X3_isReader
set_option maxRecDepth 20000 in
theorem ggX3_copy_X3_isThing : GoodIn wsX3_copy wsX3_isThing := goodIn_r _ [11, 6, 7, 4, 8] (by decide +kernel) (by decide +kernel)
set_option maxRecDepth 20000 in
theorem gX3_copy_X3_isThing : GoodIn wsX3_copy (va_wsS RX3 60 yX3_isThing wsX3_isThing) := goodIn_app (goodIn_of _ (by decide +kernel)) ggX3_copy_X3_isThing
set_option maxRecDepth 20000 in
theorem ggX3_copy_X3_thingAt : GoodIn wsX3_copy wsX3_thingAt := goodIn_r _ [14] (by decide +kernel) (by decide +kernel)
set_option maxRecDepth 20000 in
theorem gX3_copy_X3_thingAt : GoodIn wsX3_copy (va_wsS RX3 32 yX3_thingAt wsX3_thingAt) := goodIn_app (goodIn_of _ (by decide +kernel)) ggX3_copy_X3_thingAt
set_option maxRecDepth 20000 in
theorem ggX3_copy_X3_canUse : GoodIn wsX3_copy wsX3_canUse := goodIn_r _ [18, 1, 12, 13, 4, 14, 19, 20, 21, 22, 23, 24, 25, 26, 27, 28] (by decide +kernel) (by decide +kernel)
set_option maxRecDepth 20000 in
theorem gX3_copy_X3_canUse : GoodIn wsX3_copy (wsV RX3 71 RX3 yX3_canUse wsX3_canUse) := goodIn_app (goodIn_of _ (by decide +kernel)) ggX3_copy_X3_canUse
theorem dX3_copy_0 : decode cX3_copy 0 = .ok (.iload_n 1, 1) := by decide +kernel
theorem dX3_copy_1 : decode cX3_copy 1 = .ok (.invokestatic 28, 3) := by decide +kernel
theorem dX3_copy_4 : decode cX3_copy 4 = .ok (.ifCond .eq 10, 3) := by decide +kernel
theorem dX3_copy_7 : decode cX3_copy 7 = .ok (.iload_n 2, 1) := by decide +kernel
theorem dX3_copy_8 : decode cX3_copy 8 = .ok (.invokestatic 60, 3) := by decide +kernel
theorem dX3_copy_11 : decode cX3_copy 11 = .ok (.ifCond .ne 5, 3) := by decide +kernel
theorem dX3_copy_14 : decode cX3_copy 14 = .ok (.iconst (-1), 1) := by decide +kernel
theorem dX3_copy_15 : decode cX3_copy 15 = .ok (.ireturn, 1) := by decide +kernel
theorem dX3_copy_16 : decode cX3_copy 16 = .ok (.iload_n 3, 1) := by decide +kernel
theorem dX3_copy_17 : decode cX3_copy 17 = .ok (.tableswitch 87 0 3 #[31, 44, 58, 72], 31) := by decide +kernel
theorem dX3_copy_48 : decode cX3_copy 48 = .ok (.aload_n 0, 1) := by decide +kernel
theorem dX3_copy_49 : decode cX3_copy 49 = .ok (.getfield 7, 3) := by decide +kernel
theorem dX3_copy_52 : decode cX3_copy 52 = .ok (.bipush 82, 2) := by decide +kernel
theorem dX3_copy_54 : decode cX3_copy 54 = .ok (.iload_n 1, 1) := by decide +kernel
theorem dX3_copy_55 : decode cX3_copy 55 = .ok (.iload_n 2, 1) := by decide +kernel
theorem dX3_copy_56 : decode cX3_copy 56 = .ok (.invokestatic 32, 3) := by decide +kernel
theorem dX3_copy_59 : decode cX3_copy 59 = .ok (.iaload, 1) := by decide +kernel
theorem dX3_copy_60 : decode cX3_copy 60 = .ok (.ireturn, 1) := by decide +kernel
theorem dX3_copy_61 : decode cX3_copy 61 = .ok (.aload_n 0, 1) := by decide +kernel
theorem dX3_copy_62 : decode cX3_copy 62 = .ok (.getfield 7, 3) := by decide +kernel
theorem dX3_copy_65 : decode cX3_copy 65 = .ok (.sipush 142, 3) := by decide +kernel
theorem dX3_copy_68 : decode cX3_copy 68 = .ok (.iload_n 1, 1) := by decide +kernel
theorem dX3_copy_69 : decode cX3_copy 69 = .ok (.iload_n 2, 1) := by decide +kernel
theorem dX3_copy_70 : decode cX3_copy 70 = .ok (.invokestatic 32, 3) := by decide +kernel
theorem dX3_copy_73 : decode cX3_copy 73 = .ok (.iaload, 1) := by decide +kernel
theorem dX3_copy_74 : decode cX3_copy 74 = .ok (.ireturn, 1) := by decide +kernel
theorem dX3_copy_75 : decode cX3_copy 75 = .ok (.aload_n 0, 1) := by decide +kernel
theorem dX3_copy_76 : decode cX3_copy 76 = .ok (.getfield 7, 3) := by decide +kernel
theorem dX3_copy_79 : decode cX3_copy 79 = .ok (.sipush 202, 3) := by decide +kernel
theorem dX3_copy_82 : decode cX3_copy 82 = .ok (.iload_n 1, 1) := by decide +kernel
theorem dX3_copy_83 : decode cX3_copy 83 = .ok (.iload_n 2, 1) := by decide +kernel
theorem dX3_copy_84 : decode cX3_copy 84 = .ok (.invokestatic 32, 3) := by decide +kernel
theorem dX3_copy_87 : decode cX3_copy 87 = .ok (.iaload, 1) := by decide +kernel
theorem dX3_copy_88 : decode cX3_copy 88 = .ok (.ireturn, 1) := by decide +kernel
theorem dX3_copy_89 : decode cX3_copy 89 = .ok (.aload_n 0, 1) := by decide +kernel
theorem dX3_copy_90 : decode cX3_copy 90 = .ok (.iload_n 1, 1) := by decide +kernel
theorem dX3_copy_91 : decode cX3_copy 91 = .ok (.iload_n 2, 1) := by decide +kernel
theorem dX3_copy_92 : decode cX3_copy 92 = .ok (.invokevirtual 71, 3) := by decide +kernel
theorem dX3_copy_95 : decode cX3_copy 95 = .ok (.ifCond .eq 7, 3) := by decide +kernel
theorem dX3_copy_98 : decode cX3_copy 98 = .ok (.iconst 1, 1) := by decide +kernel
theorem dX3_copy_99 : decode cX3_copy 99 = .ok (.goto 4, 3) := by decide +kernel
theorem dX3_copy_102 : decode cX3_copy 102 = .ok (.iconst 0, 1) := by decide +kernel
theorem dX3_copy_103 : decode cX3_copy 103 = .ok (.ireturn, 1) := by decide +kernel
theorem dX3_copy_104 : decode cX3_copy 104 = .ok (.bipush (-2), 2) := by decide +kernel
theorem dX3_copy_106 : decode cX3_copy 106 = .ok (.ireturn, 1) := by decide +kernel
set_option maxRecDepth 20000 in
theorem ggX3_volume_X3_isReader : GoodIn wsX3_volume wsX3_isReader := goodIn_r _ [5, 6, 7, 4, 8] (by decide +kernel) (by decide +kernel)
set_option maxRecDepth 20000 in
theorem gX3_volume_X3_isReader : GoodIn wsX3_volume (va_wsS RX3 28 yX3_isReader wsX3_isReader) := goodIn_app (goodIn_of _ (by decide +kernel)) ggX3_volume_X3_isReader
set_option maxRecDepth 20000 in
theorem ggX3_volume_X3_in : GoodIn wsX3_volume wsX3_in := goodIn_r _ [8] (by decide +kernel) (by decide +kernel)
set_option maxRecDepth 20000 in
theorem gX3_volume_X3_in : GoodIn wsX3_volume (va_wsS RX3 24 yX3_in wsX3_in) := goodIn_app (goodIn_of _ (by decide +kernel)) ggX3_volume_X3_in
set_option maxRecDepth 20000 in
theorem ggX3_volume_X3_isOver : GoodIn wsX3_volume wsX3_isOver := goodIn_r _ [12, 1, 13, 14, 15] (by decide +kernel) (by decide +kernel)
set_option maxRecDepth 20000 in
theorem gX3_volume_X3_isOver : GoodIn wsX3_volume (wsV RX3 36 RX3 yX3_isOver wsX3_isOver) := goodIn_app (goodIn_of _ (by decide +kernel)) ggX3_volume_X3_isOver
theorem dX3_volume_0 : decode cX3_volume 0 = .ok (.iload_n 1, 1) := by decide +kernel
theorem dX3_volume_1 : decode cX3_volume 1 = .ok (.invokestatic 28, 3) := by decide +kernel
theorem dX3_volume_4 : decode cX3_volume 4 = .ok (.ifCond .eq 12, 3) := by decide +kernel
theorem dX3_volume_7 : decode cX3_volume 7 = .ok (.iload_n 2, 1) := by decide +kernel
theorem dX3_volume_8 : decode cX3_volume 8 = .ok (.iconst 0, 1) := by decide +kernel
theorem dX3_volume_9 : decode cX3_volume 9 = .ok (.iconst 2, 1) := by decide +kernel
theorem dX3_volume_10 : decode cX3_volume 10 = .ok (.invokestatic 24, 3) := by decide +kernel
theorem dX3_volume_13 : decode cX3_volume 13 = .ok (.ifCond .ne 5, 3) := by decide +kernel
theorem dX3_volume_16 : decode cX3_volume 16 = .ok (.iconst (-1), 1) := by decide +kernel
theorem dX3_volume_17 : decode cX3_volume 17 = .ok (.ireturn, 1) := by decide +kernel
theorem dX3_volume_18 : decode cX3_volume 18 = .ok (.iload_n 3, 1) := by decide +kernel
theorem dX3_volume_19 : decode cX3_volume 19 = .ok (.iconst 0, 1) := by decide +kernel
theorem dX3_volume_20 : decode cX3_volume 20 = .ok (.iconst 2, 1) := by decide +kernel
theorem dX3_volume_21 : decode cX3_volume 21 = .ok (.invokestatic 24, 3) := by decide +kernel
theorem dX3_volume_24 : decode cX3_volume 24 = .ok (.ifCond .ne 6, 3) := by decide +kernel
theorem dX3_volume_27 : decode cX3_volume 27 = .ok (.bipush (-2), 2) := by decide +kernel
theorem dX3_volume_29 : decode cX3_volume 29 = .ok (.ireturn, 1) := by decide +kernel
theorem dX3_volume_30 : decode cX3_volume 30 = .ok (.aload_n 0, 1) := by decide +kernel
theorem dX3_volume_31 : decode cX3_volume 31 = .ok (.getfield 7, 3) := by decide +kernel
theorem dX3_volume_34 : decode cX3_volume 34 = .ok (.bipush 52, 2) := by decide +kernel
theorem dX3_volume_36 : decode cX3_volume 36 = .ok (.iconst 3, 1) := by decide +kernel
theorem dX3_volume_37 : decode cX3_volume 37 = .ok (.iload_n 1, 1) := by decide +kernel
theorem dX3_volume_38 : decode cX3_volume 38 = .ok (.imul, 1) := by decide +kernel
theorem dX3_volume_39 : decode cX3_volume 39 = .ok (.iadd, 1) := by decide +kernel
theorem dX3_volume_40 : decode cX3_volume 40 = .ok (.iload_n 2, 1) := by decide +kernel
theorem dX3_volume_41 : decode cX3_volume 41 = .ok (.iadd, 1) := by decide +kernel
theorem dX3_volume_42 : decode cX3_volume 42 = .ok (.iaload, 1) := by decide +kernel
theorem dX3_volume_43 : decode cX3_volume 43 = .ok (.istore 4, 2) := by decide +kernel
theorem dX3_volume_45 : decode cX3_volume 45 = .ok (.iload_n 3, 1) := by decide +kernel
theorem dX3_volume_46 : decode cX3_volume 46 = .ok (.ifCond .ne 8, 3) := by decide +kernel
theorem dX3_volume_49 : decode cX3_volume 49 = .ok (.iload 4, 2) := by decide +kernel
theorem dX3_volume_51 : decode cX3_volume 51 = .ok (.goto 39, 3) := by decide +kernel
theorem dX3_volume_54 : decode cX3_volume 54 = .ok (.iload_n 3, 1) := by decide +kernel
theorem dX3_volume_55 : decode cX3_volume 55 = .ok (.iconst 1, 1) := by decide +kernel
theorem dX3_volume_56 : decode cX3_volume 56 = .ok (.if_icmp .ne 21, 3) := by decide +kernel
theorem dX3_volume_59 : decode cX3_volume 59 = .ok (.aload_n 0, 1) := by decide +kernel
theorem dX3_volume_60 : decode cX3_volume 60 = .ok (.iload_n 1, 1) := by decide +kernel
theorem dX3_volume_61 : decode cX3_volume 61 = .ok (.iload 4, 2) := by decide +kernel
theorem dX3_volume_63 : decode cX3_volume 63 = .ok (.invokevirtual 36, 3) := by decide +kernel
theorem dX3_volume_66 : decode cX3_volume 66 = .ok (.ifCond .eq 7, 3) := by decide +kernel
theorem dX3_volume_69 : decode cX3_volume 69 = .ok (.iconst 1, 1) := by decide +kernel
theorem dX3_volume_70 : decode cX3_volume 70 = .ok (.goto 20, 3) := by decide +kernel
theorem dX3_volume_73 : decode cX3_volume 73 = .ok (.iconst 0, 1) := by decide +kernel
theorem dX3_volume_74 : decode cX3_volume 74 = .ok (.goto 16, 3) := by decide +kernel
theorem dX3_volume_77 : decode cX3_volume 77 = .ok (.aload_n 0, 1) := by decide +kernel
theorem dX3_volume_78 : decode cX3_volume 78 = .ok (.getfield 7, 3) := by decide +kernel
theorem dX3_volume_81 : decode cX3_volume 81 = .ok (.bipush 67, 2) := by decide +kernel
theorem dX3_volume_83 : decode cX3_volume 83 = .ok (.iconst 3, 1) := by decide +kernel
theorem dX3_volume_84 : decode cX3_volume 84 = .ok (.iload_n 1, 1) := by decide +kernel
theorem dX3_volume_85 : decode cX3_volume 85 = .ok (.imul, 1) := by decide +kernel
theorem dX3_volume_86 : decode cX3_volume 86 = .ok (.iadd, 1) := by decide +kernel
theorem dX3_volume_87 : decode cX3_volume 87 = .ok (.iload_n 2, 1) := by decide +kernel
theorem dX3_volume_88 : decode cX3_volume 88 = .ok (.iadd, 1) := by decide +kernel
theorem dX3_volume_89 : decode cX3_volume 89 = .ok (.iaload, 1) := by decide +kernel
theorem dX3_volume_90 : decode cX3_volume 90 = .ok (.ireturn, 1) := by decide +kernel
set_option maxRecDepth 20000 in
theorem ggX3_reader_X3_isReader : GoodIn wsX3_reader wsX3_isReader := goodIn_r _ [5, 6, 7, 4, 8] (by decide +kernel) (by decide +kernel)
set_option maxRecDepth 20000 in
theorem gX3_reader_X3_isReader : GoodIn wsX3_reader (va_wsS RX3 28 yX3_isReader wsX3_isReader) := goodIn_app (goodIn_of _ (by decide +kernel)) ggX3_reader_X3_isReader
set_option maxRecDepth 20000 in
theorem ggX3_reader_X3_in : GoodIn wsX3_reader wsX3_in := goodIn_r _ [8] (by decide +kernel) (by decide +kernel)
set_option maxRecDepth 20000 in
theorem gX3_reader_X3_in : GoodIn wsX3_reader (va_wsS RX3 24 yX3_in wsX3_in) := goodIn_app (goodIn_of _ (by decide +kernel)) ggX3_reader_X3_in
set_option maxRecDepth 20000 in
theorem ggX3_reader_X3_said : GoodIn wsX3_reader wsX3_said := goodIn_r _ [11] (by decide +kernel) (by decide +kernel)
set_option maxRecDepth 20000 in
theorem gX3_reader_X3_said : GoodIn wsX3_reader (va_wsS RX3 20 yX3_said wsX3_said) := goodIn_app (goodIn_of _ (by decide +kernel)) ggX3_reader_X3_said
theorem dX3_reader_0 : decode cX3_reader 0 = .ok (.iload_n 1, 1) := by decide +kernel
theorem dX3_reader_1 : decode cX3_reader 1 = .ok (.invokestatic 28, 3) := by decide +kernel
theorem dX3_reader_4 : decode cX3_reader 4 = .ok (.ifCond .ne 5, 3) := by decide +kernel
theorem dX3_reader_7 : decode cX3_reader 7 = .ok (.iconst (-1), 1) := by decide +kernel
theorem dX3_reader_8 : decode cX3_reader 8 = .ok (.ireturn, 1) := by decide +kernel
theorem dX3_reader_9 : decode cX3_reader 9 = .ok (.iload_n 2, 1) := by decide +kernel
theorem dX3_reader_10 : decode cX3_reader 10 = .ok (.iconst 0, 1) := by decide +kernel
theorem dX3_reader_11 : decode cX3_reader 11 = .ok (.bipush 7, 2) := by decide +kernel
theorem dX3_reader_13 : decode cX3_reader 13 = .ok (.invokestatic 24, 3) := by decide +kernel
theorem dX3_reader_16 : decode cX3_reader 16 = .ok (.ifCond .ne 6, 3) := by decide +kernel
theorem dX3_reader_19 : decode cX3_reader 19 = .ok (.bipush (-2), 2) := by decide +kernel
theorem dX3_reader_21 : decode cX3_reader 21 = .ok (.ireturn, 1) := by decide +kernel
theorem dX3_reader_22 : decode cX3_reader 22 = .ok (.iload_n 2, 1) := by decide +kernel
theorem dX3_reader_23 : decode cX3_reader 23 = .ok (.ifCond .ne 15, 3) := by decide +kernel
theorem dX3_reader_26 : decode cX3_reader 26 = .ok (.aload_n 0, 1) := by decide +kernel
theorem dX3_reader_27 : decode cX3_reader 27 = .ok (.getfield 7, 3) := by decide +kernel
theorem dX3_reader_30 : decode cX3_reader 30 = .ok (.bipush 42, 2) := by decide +kernel
theorem dX3_reader_32 : decode cX3_reader 32 = .ok (.iload_n 1, 1) := by decide +kernel
theorem dX3_reader_33 : decode cX3_reader 33 = .ok (.iadd, 1) := by decide +kernel
theorem dX3_reader_34 : decode cX3_reader 34 = .ok (.iaload, 1) := by decide +kernel
theorem dX3_reader_35 : decode cX3_reader 35 = .ok (.goto 35, 3) := by decide +kernel
theorem dX3_reader_38 : decode cX3_reader 38 = .ok (.iload_n 2, 1) := by decide +kernel
theorem dX3_reader_39 : decode cX3_reader 39 = .ok (.iconst 1, 1) := by decide +kernel
theorem dX3_reader_40 : decode cX3_reader 40 = .ok (.if_icmp .ne 18, 3) := by decide +kernel
theorem dX3_reader_43 : decode cX3_reader 43 = .ok (.aload_n 0, 1) := by decide +kernel
theorem dX3_reader_44 : decode cX3_reader 44 = .ok (.getfield 7, 3) := by decide +kernel
theorem dX3_reader_47 : decode cX3_reader 47 = .ok (.bipush 47, 2) := by decide +kernel
theorem dX3_reader_49 : decode cX3_reader 49 = .ok (.iload_n 1, 1) := by decide +kernel
theorem dX3_reader_50 : decode cX3_reader 50 = .ok (.iadd, 1) := by decide +kernel
theorem dX3_reader_51 : decode cX3_reader 51 = .ok (.iaload, 1) := by decide +kernel
theorem dX3_reader_52 : decode cX3_reader 52 = .ok (.bipush 100, 2) := by decide +kernel
theorem dX3_reader_54 : decode cX3_reader 54 = .ok (.iadd, 1) := by decide +kernel
theorem dX3_reader_55 : decode cX3_reader 55 = .ok (.goto 15, 3) := by decide +kernel
theorem dX3_reader_58 : decode cX3_reader 58 = .ok (.aload_n 0, 1) := by decide +kernel
theorem dX3_reader_59 : decode cX3_reader 59 = .ok (.getfield 7, 3) := by decide +kernel
theorem dX3_reader_62 : decode cX3_reader 62 = .ok (.iload_n 1, 1) := by decide +kernel
theorem dX3_reader_63 : decode cX3_reader 63 = .ok (.iload_n 2, 1) := by decide +kernel
theorem dX3_reader_64 : decode cX3_reader 64 = .ok (.iconst 2, 1) := by decide +kernel
theorem dX3_reader_65 : decode cX3_reader 65 = .ok (.isub, 1) := by decide +kernel
theorem dX3_reader_66 : decode cX3_reader 66 = .ok (.invokestatic 20, 3) := by decide +kernel
theorem dX3_reader_69 : decode cX3_reader 69 = .ok (.iaload, 1) := by decide +kernel
theorem dX3_reader_70 : decode cX3_reader 70 = .ok (.ireturn, 1) := by decide +kernel
set_option maxRecDepth 20000 in
theorem ggX3_waiting_X3_in : GoodIn wsX3_waiting wsX3_in := goodIn_r _ [5] (by decide +kernel) (by decide +kernel)
set_option maxRecDepth 20000 in
theorem gX3_waiting_X3_in : GoodIn wsX3_waiting (va_wsS RX3 24 yX3_in wsX3_in) := goodIn_app (goodIn_of _ (by decide +kernel)) ggX3_waiting_X3_in
theorem dX3_waiting_0 : decode cX3_waiting 0 = .ok (.iload_n 1, 1) := by decide +kernel
theorem dX3_waiting_1 : decode cX3_waiting 1 = .ok (.iconst 0, 1) := by decide +kernel
theorem dX3_waiting_2 : decode cX3_waiting 2 = .ok (.aload_n 0, 1) := by decide +kernel
theorem dX3_waiting_3 : decode cX3_waiting 3 = .ok (.getfield 7, 3) := by decide +kernel
theorem dX3_waiting_6 : decode cX3_waiting 6 = .ok (.bipush 41, 2) := by decide +kernel
theorem dX3_waiting_8 : decode cX3_waiting 8 = .ok (.iaload, 1) := by decide +kernel
theorem dX3_waiting_9 : decode cX3_waiting 9 = .ok (.iconst 1, 1) := by decide +kernel
theorem dX3_waiting_10 : decode cX3_waiting 10 = .ok (.isub, 1) := by decide +kernel
theorem dX3_waiting_11 : decode cX3_waiting 11 = .ok (.invokestatic 24, 3) := by decide +kernel
theorem dX3_waiting_14 : decode cX3_waiting 14 = .ok (.ifCond .eq 15, 3) := by decide +kernel
theorem dX3_waiting_17 : decode cX3_waiting 17 = .ok (.aload_n 0, 1) := by decide +kernel
theorem dX3_waiting_18 : decode cX3_waiting 18 = .ok (.getfield 7, 3) := by decide +kernel
theorem dX3_waiting_21 : decode cX3_waiting 21 = .ok (.bipush 29, 2) := by decide +kernel
theorem dX3_waiting_23 : decode cX3_waiting 23 = .ok (.iload_n 1, 1) := by decide +kernel
theorem dX3_waiting_24 : decode cX3_waiting 24 = .ok (.iadd, 1) := by decide +kernel
theorem dX3_waiting_25 : decode cX3_waiting 25 = .ok (.iaload, 1) := by decide +kernel
theorem dX3_waiting_26 : decode cX3_waiting 26 = .ok (.goto 5, 3) := by decide +kernel
theorem dX3_waiting_29 : decode cX3_waiting 29 = .ok (.bipush (-6), 2) := by decide +kernel
theorem dX3_waiting_31 : decode cX3_waiting 31 = .ok (.ireturn, 1) := by decide +kernel
set_option maxRecDepth 20000 in
theorem ggX3_count_X3_in : GoodIn wsX3_count wsX3_in := goodIn_r _ [6] (by decide +kernel) (by decide +kernel)
set_option maxRecDepth 20000 in
theorem gX3_count_X3_in : GoodIn wsX3_count (va_wsS RX3 24 yX3_in wsX3_in) := goodIn_app (goodIn_of _ (by decide +kernel)) ggX3_count_X3_in
theorem dX3_count_0 : decode cX3_count 0 = .ok (.iload_n 1, 1) := by decide +kernel
theorem dX3_count_1 : decode cX3_count 1 = .ok (.tableswitch 150 0 8 #[51, 58, 67, 76, 85, 93, 102, 111, 120], 51) := by decide +kernel
theorem dX3_count_52 : decode cX3_count 52 = .ok (.aload_n 0, 1) := by decide +kernel
theorem dX3_count_53 : decode cX3_count 53 = .ok (.getfield 7, 3) := by decide +kernel
theorem dX3_count_56 : decode cX3_count 56 = .ok (.iconst 0, 1) := by decide +kernel
theorem dX3_count_57 : decode cX3_count 57 = .ok (.iaload, 1) := by decide +kernel
theorem dX3_count_58 : decode cX3_count 58 = .ok (.ireturn, 1) := by decide +kernel
theorem dX3_count_59 : decode cX3_count 59 = .ok (.aload_n 0, 1) := by decide +kernel
theorem dX3_count_60 : decode cX3_count 60 = .ok (.getfield 7, 3) := by decide +kernel
theorem dX3_count_63 : decode cX3_count 63 = .ok (.sipush 303, 3) := by decide +kernel
theorem dX3_count_66 : decode cX3_count 66 = .ok (.iaload, 1) := by decide +kernel
theorem dX3_count_67 : decode cX3_count 67 = .ok (.ireturn, 1) := by decide +kernel
theorem dX3_count_68 : decode cX3_count 68 = .ok (.aload_n 0, 1) := by decide +kernel
theorem dX3_count_69 : decode cX3_count 69 = .ok (.getfield 7, 3) := by decide +kernel
theorem dX3_count_72 : decode cX3_count 72 = .ok (.sipush 304, 3) := by decide +kernel
theorem dX3_count_75 : decode cX3_count 75 = .ok (.iaload, 1) := by decide +kernel
theorem dX3_count_76 : decode cX3_count 76 = .ok (.ireturn, 1) := by decide +kernel
theorem dX3_count_77 : decode cX3_count 77 = .ok (.aload_n 0, 1) := by decide +kernel
theorem dX3_count_78 : decode cX3_count 78 = .ok (.getfield 7, 3) := by decide +kernel
theorem dX3_count_81 : decode cX3_count 81 = .ok (.sipush 305, 3) := by decide +kernel
theorem dX3_count_84 : decode cX3_count 84 = .ok (.iaload, 1) := by decide +kernel
theorem dX3_count_85 : decode cX3_count 85 = .ok (.ireturn, 1) := by decide +kernel
theorem dX3_count_86 : decode cX3_count 86 = .ok (.aload_n 0, 1) := by decide +kernel
theorem dX3_count_87 : decode cX3_count 87 = .ok (.getfield 7, 3) := by decide +kernel
theorem dX3_count_90 : decode cX3_count 90 = .ok (.bipush 41, 2) := by decide +kernel
theorem dX3_count_92 : decode cX3_count 92 = .ok (.iaload, 1) := by decide +kernel
theorem dX3_count_93 : decode cX3_count 93 = .ok (.ireturn, 1) := by decide +kernel
theorem dX3_count_94 : decode cX3_count 94 = .ok (.aload_n 0, 1) := by decide +kernel
theorem dX3_count_95 : decode cX3_count 95 = .ok (.getfield 7, 3) := by decide +kernel
theorem dX3_count_98 : decode cX3_count 98 = .ok (.sipush 306, 3) := by decide +kernel
theorem dX3_count_101 : decode cX3_count 101 = .ok (.iaload, 1) := by decide +kernel
theorem dX3_count_102 : decode cX3_count 102 = .ok (.ireturn, 1) := by decide +kernel
theorem dX3_count_103 : decode cX3_count 103 = .ok (.aload_n 0, 1) := by decide +kernel
theorem dX3_count_104 : decode cX3_count 104 = .ok (.getfield 7, 3) := by decide +kernel
theorem dX3_count_107 : decode cX3_count 107 = .ok (.sipush 307, 3) := by decide +kernel
theorem dX3_count_110 : decode cX3_count 110 = .ok (.iaload, 1) := by decide +kernel
theorem dX3_count_111 : decode cX3_count 111 = .ok (.ireturn, 1) := by decide +kernel
theorem dX3_count_112 : decode cX3_count 112 = .ok (.aload_n 0, 1) := by decide +kernel
theorem dX3_count_113 : decode cX3_count 113 = .ok (.getfield 7, 3) := by decide +kernel
theorem dX3_count_116 : decode cX3_count 116 = .ok (.sipush 308, 3) := by decide +kernel
theorem dX3_count_119 : decode cX3_count 119 = .ok (.iaload, 1) := by decide +kernel
theorem dX3_count_120 : decode cX3_count 120 = .ok (.ireturn, 1) := by decide +kernel
theorem dX3_count_121 : decode cX3_count 121 = .ok (.aload_n 0, 1) := by decide +kernel
theorem dX3_count_122 : decode cX3_count 122 = .ok (.getfield 16, 3) := by decide +kernel
theorem dX3_count_125 : decode cX3_count 125 = .ok (.iconst 0, 1) := by decide +kernel
theorem dX3_count_126 : decode cX3_count 126 = .ok (.baload, 1) := by decide +kernel
theorem dX3_count_127 : decode cX3_count 127 = .ok (.ifCond .eq 7, 3) := by decide +kernel
theorem dX3_count_130 : decode cX3_count 130 = .ok (.iconst 1, 1) := by decide +kernel
theorem dX3_count_131 : decode cX3_count 131 = .ok (.goto 4, 3) := by decide +kernel
theorem dX3_count_134 : decode cX3_count 134 = .ok (.iconst 0, 1) := by decide +kernel
theorem dX3_count_135 : decode cX3_count 135 = .ok (.aload_n 0, 1) := by decide +kernel
theorem dX3_count_136 : decode cX3_count 136 = .ok (.getfield 16, 3) := by decide +kernel
theorem dX3_count_139 : decode cX3_count 139 = .ok (.iconst 1, 1) := by decide +kernel
theorem dX3_count_140 : decode cX3_count 140 = .ok (.baload, 1) := by decide +kernel
theorem dX3_count_141 : decode cX3_count 141 = .ok (.ifCond .eq 7, 3) := by decide +kernel
theorem dX3_count_144 : decode cX3_count 144 = .ok (.iconst 2, 1) := by decide +kernel
theorem dX3_count_145 : decode cX3_count 145 = .ok (.goto 4, 3) := by decide +kernel
theorem dX3_count_148 : decode cX3_count 148 = .ok (.iconst 0, 1) := by decide +kernel
theorem dX3_count_149 : decode cX3_count 149 = .ok (.iadd, 1) := by decide +kernel
theorem dX3_count_150 : decode cX3_count 150 = .ok (.ireturn, 1) := by decide +kernel
theorem dX3_count_151 : decode cX3_count 151 = .ok (.iload_n 1, 1) := by decide +kernel
theorem dX3_count_152 : decode cX3_count 152 = .ok (.bipush 10, 2) := by decide +kernel
theorem dX3_count_154 : decode cX3_count 154 = .ok (.bipush 13, 2) := by decide +kernel
theorem dX3_count_156 : decode cX3_count 156 = .ok (.invokestatic 24, 3) := by decide +kernel
theorem dX3_count_159 : decode cX3_count 159 = .ok (.ifCond .eq 17, 3) := by decide +kernel
theorem dX3_count_162 : decode cX3_count 162 = .ok (.aload_n 0, 1) := by decide +kernel
theorem dX3_count_163 : decode cX3_count 163 = .ok (.getfield 7, 3) := by decide +kernel
theorem dX3_count_166 : decode cX3_count 166 = .ok (.iconst 1, 1) := by decide +kernel
theorem dX3_count_167 : decode cX3_count 167 = .ok (.iload_n 1, 1) := by decide +kernel
theorem dX3_count_168 : decode cX3_count 168 = .ok (.iadd, 1) := by decide +kernel
theorem dX3_count_169 : decode cX3_count 169 = .ok (.bipush 10, 2) := by decide +kernel
theorem dX3_count_171 : decode cX3_count 171 = .ok (.isub, 1) := by decide +kernel
theorem dX3_count_172 : decode cX3_count 172 = .ok (.iaload, 1) := by decide +kernel
theorem dX3_count_173 : decode cX3_count 173 = .ok (.goto 5, 3) := by decide +kernel
theorem dX3_count_176 : decode cX3_count 176 = .ok (.bipush (-2), 2) := by decide +kernel
theorem dX3_count_178 : decode cX3_count 178 = .ok (.ireturn, 1) := by decide +kernel
set_option maxRecDepth 20000 in
theorem ggX3_image_X3_in : GoodIn wsX3_image wsX3_in := goodIn_r _ [7] (by decide +kernel) (by decide +kernel)
set_option maxRecDepth 20000 in
theorem gX3_image_X3_in : GoodIn wsX3_image (va_wsS RX3 24 yX3_in wsX3_in) := goodIn_app (goodIn_of _ (by decide +kernel)) ggX3_image_X3_in
theorem dX3_image_0 : decode cX3_image 0 = .ok (.iload_n 1, 1) := by decide +kernel
theorem dX3_image_1 : decode cX3_image 1 = .ok (.iconst 0, 1) := by decide +kernel
theorem dX3_image_2 : decode cX3_image 2 = .ok (.iconst 1, 1) := by decide +kernel
theorem dX3_image_3 : decode cX3_image 3 = .ok (.invokestatic 24, 3) := by decide +kernel
theorem dX3_image_6 : decode cX3_image 6 = .ok (.ifCond .ne 6, 3) := by decide +kernel
theorem dX3_image_9 : decode cX3_image 9 = .ok (.bipush (-2), 2) := by decide +kernel
theorem dX3_image_11 : decode cX3_image 11 = .ok (.ireturn, 1) := by decide +kernel
theorem dX3_image_12 : decode cX3_image 12 = .ok (.iconst 0, 1) := by decide +kernel
theorem dX3_image_13 : decode cX3_image 13 = .ok (.istore_n 2, 1) := by decide +kernel
theorem dX3_image_14 : decode cX3_image 14 = .ok (.iload_n 2, 1) := by decide +kernel
theorem dX3_image_15 : decode cX3_image 15 = .ok (.sipush 309, 3) := by decide +kernel
theorem dX3_image_18 : decode cX3_image 18 = .ok (.if_icmp .ge 27, 3) := by decide +kernel
theorem dX3_image_21 : decode cX3_image 21 = .ok (.aload_n 0, 1) := by decide +kernel
theorem dX3_image_22 : decode cX3_image 22 = .ok (.getfield 13, 3) := by decide +kernel
theorem dX3_image_25 : decode cX3_image 25 = .ok (.sipush 309, 3) := by decide +kernel
theorem dX3_image_28 : decode cX3_image 28 = .ok (.iload_n 1, 1) := by decide +kernel
theorem dX3_image_29 : decode cX3_image 29 = .ok (.imul, 1) := by decide +kernel
theorem dX3_image_30 : decode cX3_image 30 = .ok (.iload_n 2, 1) := by decide +kernel
theorem dX3_image_31 : decode cX3_image 31 = .ok (.iadd, 1) := by decide +kernel
theorem dX3_image_32 : decode cX3_image 32 = .ok (.aload_n 0, 1) := by decide +kernel
theorem dX3_image_33 : decode cX3_image 33 = .ok (.getfield 7, 3) := by decide +kernel
theorem dX3_image_36 : decode cX3_image 36 = .ok (.iload_n 2, 1) := by decide +kernel
theorem dX3_image_37 : decode cX3_image 37 = .ok (.iaload, 1) := by decide +kernel
theorem dX3_image_38 : decode cX3_image 38 = .ok (.iastore, 1) := by decide +kernel
theorem dX3_image_39 : decode cX3_image 39 = .ok (.iinc 2 1, 3) := by decide +kernel
theorem dX3_image_42 : decode cX3_image 42 = .ok (.goto (-28), 3) := by decide +kernel
theorem dX3_image_45 : decode cX3_image 45 = .ok (.aload_n 0, 1) := by decide +kernel
theorem dX3_image_46 : decode cX3_image 46 = .ok (.getfield 16, 3) := by decide +kernel
theorem dX3_image_49 : decode cX3_image 49 = .ok (.iload_n 1, 1) := by decide +kernel
theorem dX3_image_50 : decode cX3_image 50 = .ok (.iconst 1, 1) := by decide +kernel
theorem dX3_image_51 : decode cX3_image 51 = .ok (.bastore, 1) := by decide +kernel
theorem dX3_image_52 : decode cX3_image 52 = .ok (.iconst 1, 1) := by decide +kernel
theorem dX3_image_53 : decode cX3_image 53 = .ok (.ireturn, 1) := by decide +kernel
set_option maxRecDepth 20000 in
theorem ggX3_restore_X3_in : GoodIn wsX3_restore wsX3_in := goodIn_r _ [7] (by decide +kernel) (by decide +kernel)
set_option maxRecDepth 20000 in
theorem gX3_restore_X3_in : GoodIn wsX3_restore (va_wsS RX3 24 yX3_in wsX3_in) := goodIn_app (goodIn_of _ (by decide +kernel)) ggX3_restore_X3_in
theorem dX3_restore_0 : decode cX3_restore 0 = .ok (.iload_n 1, 1) := by decide +kernel
theorem dX3_restore_1 : decode cX3_restore 1 = .ok (.iconst 0, 1) := by decide +kernel
theorem dX3_restore_2 : decode cX3_restore 2 = .ok (.iconst 1, 1) := by decide +kernel
theorem dX3_restore_3 : decode cX3_restore 3 = .ok (.invokestatic 24, 3) := by decide +kernel
theorem dX3_restore_6 : decode cX3_restore 6 = .ok (.ifCond .ne 6, 3) := by decide +kernel
theorem dX3_restore_9 : decode cX3_restore 9 = .ok (.bipush (-2), 2) := by decide +kernel
theorem dX3_restore_11 : decode cX3_restore 11 = .ok (.ireturn, 1) := by decide +kernel
theorem dX3_restore_12 : decode cX3_restore 12 = .ok (.aload_n 0, 1) := by decide +kernel
theorem dX3_restore_13 : decode cX3_restore 13 = .ok (.getfield 16, 3) := by decide +kernel
theorem dX3_restore_16 : decode cX3_restore 16 = .ok (.iload_n 1, 1) := by decide +kernel
theorem dX3_restore_17 : decode cX3_restore 17 = .ok (.baload, 1) := by decide +kernel
theorem dX3_restore_18 : decode cX3_restore 18 = .ok (.ifCond .ne 6, 3) := by decide +kernel
theorem dX3_restore_21 : decode cX3_restore 21 = .ok (.bipush (-3), 2) := by decide +kernel
theorem dX3_restore_23 : decode cX3_restore 23 = .ok (.ireturn, 1) := by decide +kernel
theorem dX3_restore_24 : decode cX3_restore 24 = .ok (.iconst 0, 1) := by decide +kernel
theorem dX3_restore_25 : decode cX3_restore 25 = .ok (.istore_n 2, 1) := by decide +kernel
theorem dX3_restore_26 : decode cX3_restore 26 = .ok (.iload_n 2, 1) := by decide +kernel
theorem dX3_restore_27 : decode cX3_restore 27 = .ok (.sipush 309, 3) := by decide +kernel
theorem dX3_restore_30 : decode cX3_restore 30 = .ok (.if_icmp .ge 27, 3) := by decide +kernel
theorem dX3_restore_33 : decode cX3_restore 33 = .ok (.aload_n 0, 1) := by decide +kernel
theorem dX3_restore_34 : decode cX3_restore 34 = .ok (.getfield 7, 3) := by decide +kernel
theorem dX3_restore_37 : decode cX3_restore 37 = .ok (.iload_n 2, 1) := by decide +kernel
theorem dX3_restore_38 : decode cX3_restore 38 = .ok (.aload_n 0, 1) := by decide +kernel
theorem dX3_restore_39 : decode cX3_restore 39 = .ok (.getfield 13, 3) := by decide +kernel
theorem dX3_restore_42 : decode cX3_restore 42 = .ok (.sipush 309, 3) := by decide +kernel
theorem dX3_restore_45 : decode cX3_restore 45 = .ok (.iload_n 1, 1) := by decide +kernel
theorem dX3_restore_46 : decode cX3_restore 46 = .ok (.imul, 1) := by decide +kernel
theorem dX3_restore_47 : decode cX3_restore 47 = .ok (.iload_n 2, 1) := by decide +kernel
theorem dX3_restore_48 : decode cX3_restore 48 = .ok (.iadd, 1) := by decide +kernel
theorem dX3_restore_49 : decode cX3_restore 49 = .ok (.iaload, 1) := by decide +kernel
theorem dX3_restore_50 : decode cX3_restore 50 = .ok (.iastore, 1) := by decide +kernel
theorem dX3_restore_51 : decode cX3_restore 51 = .ok (.iinc 2 1, 3) := by decide +kernel
theorem dX3_restore_54 : decode cX3_restore 54 = .ok (.goto (-28), 3) := by decide +kernel
theorem dX3_restore_57 : decode cX3_restore 57 = .ok (.iconst 1, 1) := by decide +kernel
theorem dX3_restore_58 : decode cX3_restore 58 = .ok (.ireturn, 1) := by decide +kernel
theorem dJ9_abs_0f7a4_0 : decode cJ9_abs_0f7a4 0 = .ok (.iload_n 0, 1) := by decide +kernel
theorem dJ9_abs_0f7a4_1 : decode cJ9_abs_0f7a4 1 = .ok (.ifCond .ge 8, 3) := by decide +kernel
theorem dJ9_abs_0f7a4_4 : decode cJ9_abs_0f7a4 4 = .ok (.iload_n 0, 1) := by decide +kernel
theorem dJ9_abs_0f7a4_5 : decode cJ9_abs_0f7a4 5 = .ok (.ineg, 1) := by decide +kernel
theorem dJ9_abs_0f7a4_6 : decode cJ9_abs_0f7a4 6 = .ok (.goto 4, 3) := by decide +kernel
theorem dJ9_abs_0f7a4_9 : decode cJ9_abs_0f7a4 9 = .ok (.iload_n 0, 1) := by decide +kernel
theorem dJ9_abs_0f7a4_10 : decode cJ9_abs_0f7a4 10 = .ok (.ireturn, 1) := by decide +kernel
theorem dJ9_max_7cf53_0 : decode cJ9_max_7cf53 0 = .ok (.iload_n 0, 1) := by decide +kernel
theorem dJ9_max_7cf53_1 : decode cJ9_max_7cf53 1 = .ok (.iload_n 1, 1) := by decide +kernel
theorem dJ9_max_7cf53_2 : decode cJ9_max_7cf53 2 = .ok (.if_icmp .lt 7, 3) := by decide +kernel
theorem dJ9_max_7cf53_5 : decode cJ9_max_7cf53 5 = .ok (.iload_n 0, 1) := by decide +kernel
theorem dJ9_max_7cf53_6 : decode cJ9_max_7cf53 6 = .ok (.goto 4, 3) := by decide +kernel
theorem dJ9_max_7cf53_9 : decode cJ9_max_7cf53 9 = .ok (.iload_n 1, 1) := by decide +kernel
theorem dJ9_max_7cf53_10 : decode cJ9_max_7cf53 10 = .ok (.ireturn, 1) := by decide +kernel
theorem dJ9_min_7cf53_0 : decode cJ9_min_7cf53 0 = .ok (.iload_n 0, 1) := by decide +kernel
theorem dJ9_min_7cf53_1 : decode cJ9_min_7cf53 1 = .ok (.iload_n 1, 1) := by decide +kernel
theorem dJ9_min_7cf53_2 : decode cJ9_min_7cf53 2 = .ok (.if_icmp .gt 7, 3) := by decide +kernel
theorem dJ9_min_7cf53_5 : decode cJ9_min_7cf53 5 = .ok (.iload_n 0, 1) := by decide +kernel
theorem dJ9_min_7cf53_6 : decode cJ9_min_7cf53 6 = .ok (.goto 4, 3) := by decide +kernel
theorem dJ9_min_7cf53_9 : decode cJ9_min_7cf53 9 = .ok (.iload_n 1, 1) := by decide +kernel
theorem dJ9_min_7cf53_10 : decode cJ9_min_7cf53 10 = .ok (.ireturn, 1) := by decide +kernel
theorem dJ7_fill_53178_0 : decode cJ7_fill_53178 0 = .ok (.iconst 0, 1) := by decide +kernel
theorem dJ7_fill_53178_1 : decode cJ7_fill_53178 1 = .ok (.istore_n 2, 1) := by decide +kernel
theorem dJ7_fill_53178_2 : decode cJ7_fill_53178 2 = .ok (.aload_n 0, 1) := by decide +kernel
theorem dJ7_fill_53178_3 : decode cJ7_fill_53178 3 = .ok (.arraylength, 1) := by decide +kernel
theorem dJ7_fill_53178_4 : decode cJ7_fill_53178 4 = .ok (.istore_n 3, 1) := by decide +kernel
theorem dJ7_fill_53178_5 : decode cJ7_fill_53178 5 = .ok (.iload_n 2, 1) := by decide +kernel
theorem dJ7_fill_53178_6 : decode cJ7_fill_53178 6 = .ok (.iload_n 3, 1) := by decide +kernel
theorem dJ7_fill_53178_7 : decode cJ7_fill_53178 7 = .ok (.if_icmp .ge 13, 3) := by decide +kernel
theorem dJ7_fill_53178_10 : decode cJ7_fill_53178 10 = .ok (.aload_n 0, 1) := by decide +kernel
theorem dJ7_fill_53178_11 : decode cJ7_fill_53178 11 = .ok (.iload_n 2, 1) := by decide +kernel
theorem dJ7_fill_53178_12 : decode cJ7_fill_53178 12 = .ok (.iload_n 1, 1) := by decide +kernel
theorem dJ7_fill_53178_13 : decode cJ7_fill_53178 13 = .ok (.iastore, 1) := by decide +kernel
theorem dJ7_fill_53178_14 : decode cJ7_fill_53178 14 = .ok (.iinc 2 1, 3) := by decide +kernel
theorem dJ7_fill_53178_17 : decode cJ7_fill_53178 17 = .ok (.goto (-12), 3) := by decide +kernel
theorem dJ7_fill_53178_20 : decode cJ7_fill_53178 20 = .ok (.return_, 1) := by decide +kernel
set_option maxRecDepth 20000 in
theorem ggL_law_X2_init : GoodIn wsL_law wsX2_init := goodIn_r _ [8, 9, 10, 11, 12, 13, 14, 15, 16, 17, 18, 19, 20, 21, 22, 23, 24, 25, 26, 27, 28, 29, 30, 31, 32, 33, 34, 35, 36, 37, 38, 39, 40, 41, 42, 43, 44, 45, 46, 47, 48, 49, 50, 51, 52, 53, 54, 55, 56, 57, 58, 59, 60, 61, 62, 2, 63, 64, 65, 66, 67, 68, 69, 70, 71, 72, 420, 421, 422, 423, 424, 425, 426, 427, 428, 429, 430, 431, 432, 433, 434, 435, 436, 414, 415, 416, 437, 438, 439, 440, 441, 442, 443, 444, 445, 446, 447, 448, 449] (by decide +kernel) (by decide +kernel)
set_option maxRecDepth 20000 in
theorem gL_law_X2_init : GoodIn wsL_law (wsX2_init) := ggL_law_X2_init
set_option maxRecDepth 20000 in
theorem ggL_law_X3_init : GoodIn wsL_law wsX3_init := goodIn_r _ [75, 76, 10, 11, 22, 77, 78, 79, 80, 81, 82, 5, 83, 417, 418, 419] (by decide +kernel) (by decide +kernel)
set_option maxRecDepth 20000 in
theorem gL_law_X3_init : GoodIn wsL_law (wsX3_init) := ggL_law_X3_init
set_option maxRecDepth 20000 in
theorem ggL_law_X2_rule : GoodIn wsL_law wsX2_rule := goodIn_r _ [87, 88, 89, 15, 414, 415, 416, 420, 421, 422, 423, 424, 425, 426, 427, 428, 429, 430, 431, 432, 433, 434, 435, 436] (by decide +kernel) (by decide +kernel)
set_option maxRecDepth 20000 in
theorem gL_law_X2_rule : GoodIn wsL_law (wsV RL 13 RX2 yX2_rule wsX2_rule) := goodIn_app (goodIn_of _ (by decide +kernel)) ggL_law_X2_rule
set_option maxRecDepth 20000 in
theorem ggL_law_X3_rule : GoodIn wsL_law wsX3_rule := goodIn_r _ [93, 77, 94, 95, 5, 96, 417, 418, 419] (by decide +kernel) (by decide +kernel)
set_option maxRecDepth 20000 in
theorem gL_law_X3_rule : GoodIn wsL_law (wsV RL 17 RX3 yX3_rule wsX3_rule) := goodIn_app (goodIn_of _ (by decide +kernel)) ggL_law_X3_rule
set_option maxRecDepth 20000 in
theorem ggL_law_X2_skew : GoodIn wsL_law wsX2_skew := goodIn_r _ [100, 15, 101, 102, 2, 103, 104, 14, 105, 106, 27, 107, 108, 66, 109, 23, 110, 111, 414, 415, 416, 420, 421, 422, 423, 424, 425, 426, 427, 428, 429, 430, 431, 432, 433, 434, 435, 436, 437, 438, 439, 440, 441, 442, 443, 444, 445, 446, 447, 448, 449] (by decide +kernel) (by decide +kernel)
set_option maxRecDepth 20000 in
theorem gL_law_X2_skew : GoodIn wsL_law (wsV RL 18 RX2 yX2_skew wsX2_skew) := goodIn_app (goodIn_of _ (by decide +kernel)) ggL_law_X2_skew
set_option maxRecDepth 20000 in
theorem ggL_law_X3_skew : GoodIn wsL_law wsX3_skew := goodIn_r _ [115, 77, 116, 117, 5, 118, 94, 95, 96, 417, 418, 419] (by decide +kernel) (by decide +kernel)
set_option maxRecDepth 20000 in
theorem gL_law_X3_skew : GoodIn wsL_law (wsV RL 21 RX3 yX3_skew wsX3_skew) := goodIn_app (goodIn_of _ (by decide +kernel)) ggL_law_X3_skew
set_option maxRecDepth 20000 in
theorem ggL_law_X2_there : GoodIn wsL_law wsX2_there := goodIn_r _ [122, 15, 101, 102, 2, 103, 123, 14, 124, 125, 31, 30, 126, 127, 128, 129, 27, 28, 29, 38, 130, 131, 132, 133, 21, 134, 135, 136, 137, 138, 26, 139, 140, 50, 141, 142, 143, 144, 145, 146, 40, 147, 148, 149, 150, 151, 152, 39, 153, 154, 155, 156, 157, 158, 159, 47, 48, 49, 160, 161, 162, 163, 110, 111, 414, 415, 416, 420, 421, 422, 423, 424, 425, 426, 427, 428, 429, 430, 431, 432, 433, 434, 435, 436, 437, 438, 439, 440, 441, 442, 443, 444, 445, 446, 447, 448, 449] (by decide +kernel) (by decide +kernel)
set_option maxRecDepth 20000 in
theorem gL_law_X2_there : GoodIn wsL_law (wsV RL 22 RX2 yX2_there wsX2_there) := goodIn_app (goodIn_of _ (by decide +kernel)) ggL_law_X2_there
set_option maxRecDepth 20000 in
theorem ggL_law_X3_there : GoodIn wsL_law wsX3_there := goodIn_r _ [167, 77, 116, 117, 5, 118, 94, 95, 96, 168, 169, 170, 171, 172, 173, 174, 175, 176, 177, 178, 179, 180, 181, 182, 183, 184, 185, 81, 82, 83, 186, 187, 188, 189, 417, 418, 419] (by decide +kernel) (by decide +kernel)
set_option maxRecDepth 20000 in
theorem gL_law_X3_there : GoodIn wsL_law (wsV RL 25 RX3 yX3_there wsX3_there) := goodIn_app (goodIn_of _ (by decide +kernel)) ggL_law_X3_there
set_option maxRecDepth 20000 in
theorem ggL_law_X2_read : GoodIn wsL_law wsX2_read := goodIn_r _ [193, 15, 101, 102, 2, 103, 194, 195, 196, 197, 14, 198, 199, 200, 201, 202, 203, 204, 26, 205, 206, 47, 207, 208, 209, 210, 21, 23, 138, 139, 140, 50, 141, 142, 211, 212, 213, 214, 28, 36, 215, 216, 217, 218, 33, 219, 220, 221, 222, 32, 223, 224, 225, 226, 227, 228, 229, 230, 41, 231, 232, 233, 234, 147, 148, 110, 111, 153, 154, 155, 156, 157, 158, 159, 48, 49, 235, 236, 237, 238, 29, 414, 415, 416, 420, 421, 422, 423, 424, 425, 426, 427, 428, 429, 430, 431, 432, 433, 434, 435, 436, 437, 438, 439, 440, 441, 442, 443, 444, 445, 446, 447, 448, 449] (by decide +kernel) (by decide +kernel)
set_option maxRecDepth 20000 in
theorem gL_law_X2_read : GoodIn wsL_law (wsV RL 26 RX2 yX2_read wsX2_read) := goodIn_app (goodIn_of _ (by decide +kernel)) ggL_law_X2_read
set_option maxRecDepth 20000 in
theorem ggL_law_X3_read : GoodIn wsL_law wsX3_read := goodIn_r _ [242, 77, 116, 117, 5, 118, 94, 95, 96, 243, 244, 245, 180, 181, 182, 183, 184, 185, 246, 247, 248, 249, 250, 251, 252, 253, 81, 82, 83, 254, 255, 256, 257, 258, 259, 260, 261, 186, 187, 188, 189, 417, 418, 419] (by decide +kernel) (by decide +kernel)
set_option maxRecDepth 20000 in
theorem gL_law_X3_read : GoodIn wsL_law (wsV RL 29 RX3 yX3_read wsX3_read) := goodIn_app (goodIn_of _ (by decide +kernel)) ggL_law_X3_read
set_option maxRecDepth 20000 in
theorem ggL_law_X2_write : GoodIn wsL_law wsX2_write := goodIn_r _ [265, 15, 194, 195, 2, 196, 236, 14, 237, 238, 29, 266, 267, 268, 37, 21, 126, 127, 128, 129, 27, 28, 38, 130, 131, 132, 133, 134, 135, 136, 137, 138, 26, 139, 140, 50, 141, 142, 143, 144, 145, 146, 40, 147, 148, 149, 150, 151, 152, 39, 153, 154, 155, 156, 157, 158, 159, 47, 48, 49, 160, 161, 162, 163, 110, 111, 269, 270, 271, 272, 35, 273, 274, 275, 276, 34, 277, 278, 279, 280, 65, 66, 67, 281, 282, 283, 284, 285, 31, 30, 286, 287, 288, 289, 290, 291, 292, 414, 415, 416, 420, 421, 422, 423, 424, 425, 426, 427, 428, 429, 430, 431, 432, 433, 434, 435, 436, 437, 438, 439, 440, 441, 442, 443, 444, 445, 446, 447, 448, 449] (by decide +kernel) (by decide +kernel)
set_option maxRecDepth 20000 in
theorem gL_law_X2_write : GoodIn wsL_law (wsV RL 30 RX2 yX2_write wsX2_write) := goodIn_app (goodIn_of _ (by decide +kernel)) ggL_law_X2_write
set_option maxRecDepth 20000 in
theorem ggL_law_X3_write : GoodIn wsL_law wsX3_write := goodIn_r _ [296, 77, 243, 244, 5, 245, 94, 95, 96, 172, 173, 174, 175, 176, 177, 178, 179, 180, 181, 182, 183, 184, 185, 81, 82, 83, 186, 187, 188, 189, 297, 298, 299, 300, 301, 302, 303, 304, 305, 306, 307, 308, 417, 418, 419] (by decide +kernel) (by decide +kernel)
set_option maxRecDepth 20000 in
theorem gL_law_X3_write : GoodIn wsL_law (wsV RL 33 RX3 yX3_write wsX3_write) := goodIn_app (goodIn_of _ (by decide +kernel)) ggL_law_X3_write
set_option maxRecDepth 20000 in
theorem ggL_law_X2_pass : GoodIn wsL_law wsX2_pass := goodIn_r _ [312, 15, 123, 14, 124, 125, 31, 30, 126, 127, 128, 129, 27, 28, 29, 38, 130, 131, 132, 133, 21, 134, 135, 136, 137, 138, 26, 139, 140, 50, 141, 2, 142, 143, 144, 145, 146, 40, 147, 148, 149, 150, 151, 152, 39, 153, 154, 155, 156, 157, 158, 159, 47, 48, 49, 160, 161, 162, 163, 110, 111, 414, 415, 416, 420, 421, 422, 423, 424, 425, 426, 427, 428, 429, 430, 431, 432, 433, 434, 435, 436, 437, 438, 439, 440, 441, 442, 443, 444, 445, 446, 447, 448, 449] (by decide +kernel) (by decide +kernel)
set_option maxRecDepth 20000 in
theorem gL_law_X2_pass : GoodIn wsL_law (wsV RL 34 RX2 yX2_pass wsX2_pass) := goodIn_app (goodIn_of _ (by decide +kernel)) ggL_law_X2_pass
set_option maxRecDepth 20000 in
theorem ggL_law_X3_pass : GoodIn wsL_law wsX3_pass := goodIn_r _ [316, 77, 94, 95, 5, 96, 168, 169, 170, 171, 172, 173, 174, 175, 176, 177, 178, 179, 180, 181, 182, 183, 184, 185, 81, 82, 83, 186, 187, 188, 189, 417, 418, 419] (by decide +kernel) (by decide +kernel)
set_option maxRecDepth 20000 in
theorem gL_law_X3_pass : GoodIn wsL_law (wsV RL 38 RX3 yX3_pass wsX3_pass) := goodIn_app (goodIn_of _ (by decide +kernel)) ggL_law_X3_pass
set_option maxRecDepth 20000 in
theorem ggL_law_X2_cause : GoodIn wsL_law wsX2_cause := goodIn_r _ [320, 15, 414, 415, 416, 420, 421, 422, 423, 424, 425, 426, 427, 428, 429, 430, 431, 432, 433, 434, 435, 436] (by decide +kernel) (by decide +kernel)
set_option maxRecDepth 20000 in
theorem gL_law_X2_cause : GoodIn wsL_law (wsV RL 39 RX2 yX2_cause wsX2_cause) := goodIn_app (goodIn_of _ (by decide +kernel)) ggL_law_X2_cause
set_option maxRecDepth 20000 in
theorem ggL_law_X3_cause : GoodIn wsL_law wsX3_cause := goodIn_r _ [324, 77, 94, 95, 5, 96, 417, 418, 419] (by decide +kernel) (by decide +kernel)
set_option maxRecDepth 20000 in
theorem gL_law_X3_cause : GoodIn wsL_law (wsV RL 42 RX3 yX3_cause wsX3_cause) := goodIn_app (goodIn_of _ (by decide +kernel)) ggL_law_X3_cause
set_option maxRecDepth 20000 in
theorem ggL_law_X2_waited : GoodIn wsL_law wsX2_waited := goodIn_r _ [328, 15, 414, 415, 416, 420, 421, 422, 423, 424, 425, 426, 427, 428, 429, 430, 431, 432, 433, 434, 435, 436] (by decide +kernel) (by decide +kernel)
set_option maxRecDepth 20000 in
theorem gL_law_X2_waited : GoodIn wsL_law (wsV RL 43 RX2 yX2_waited wsX2_waited) := goodIn_app (goodIn_of _ (by decide +kernel)) ggL_law_X2_waited
set_option maxRecDepth 20000 in
theorem ggL_law_X3_waited : GoodIn wsL_law wsX3_waited := goodIn_r _ [332, 77, 94, 95, 5, 96, 417, 418, 419] (by decide +kernel) (by decide +kernel)
set_option maxRecDepth 20000 in
theorem gL_law_X3_waited : GoodIn wsL_law (wsV RL 46 RX3 yX3_waited wsX3_waited) := goodIn_app (goodIn_of _ (by decide +kernel)) ggL_law_X3_waited
set_option maxRecDepth 20000 in
theorem ggL_law_X2_thing : GoodIn wsL_law wsX2_thing := goodIn_r _ [336, 15, 194, 195, 2, 196, 236, 14, 237, 238, 29, 337, 110, 111, 287, 288, 289, 21, 27, 290, 291, 66, 292, 130, 131, 132, 133, 277, 26, 278, 279, 49, 280, 65, 67, 281, 138, 139, 140, 50, 141, 142, 161, 162, 163, 338, 339, 340, 204, 205, 206, 47, 341, 342, 343, 200, 201, 202, 203, 207, 208, 209, 210, 23, 414, 415, 416, 420, 421, 422, 423, 424, 425, 426, 427, 428, 429, 430, 431, 432, 433, 434, 435, 436, 437, 438, 439, 440, 441, 442, 443, 444, 445, 446, 447, 448, 449] (by decide +kernel) (by decide +kernel)
set_option maxRecDepth 20000 in
theorem gL_law_X2_thing : GoodIn wsL_law (wsV RL 47 RX2 yX2_thing wsX2_thing) := goodIn_app (goodIn_of _ (by decide +kernel)) ggL_law_X2_thing
set_option maxRecDepth 20000 in
theorem ggL_law_X3_thing : GoodIn wsL_law wsX3_thing := goodIn_r _ [347, 77, 243, 244, 5, 245, 94, 95, 96, 305, 306, 307, 308, 180, 181, 182, 183, 184, 185, 176, 177, 178, 179, 246, 247, 248, 249, 250, 251, 252, 253, 417, 418, 419] (by decide +kernel) (by decide +kernel)
set_option maxRecDepth 20000 in
theorem gL_law_X3_thing : GoodIn wsL_law (wsV RL 50 RX3 yX3_thing wsX3_thing) := goodIn_app (goodIn_of _ (by decide +kernel)) ggL_law_X3_thing
set_option maxRecDepth 20000 in
theorem ggL_law_X2_copy : GoodIn wsL_law wsX2_copy := goodIn_r _ [351, 15, 101, 102, 2, 103, 194, 195, 196, 201, 14, 202, 203, 204, 26, 205, 206, 47, 207, 208, 209, 210, 21, 23, 138, 139, 140, 50, 141, 142, 337, 110, 111, 414, 415, 416, 420, 421, 422, 423, 424, 425, 426, 427, 428, 429, 430, 431, 432, 433, 434, 435, 436, 437, 438, 439, 440, 441, 442, 443, 444, 445, 446, 447, 448, 449] (by decide +kernel) (by decide +kernel)
set_option maxRecDepth 20000 in
theorem gL_law_X2_copy : GoodIn wsL_law (wsV RL 51 RX2 yX2_copy wsX2_copy) := goodIn_app (goodIn_of _ (by decide +kernel)) ggL_law_X2_copy
set_option maxRecDepth 20000 in
theorem ggL_law_X3_copy : GoodIn wsL_law wsX3_copy := goodIn_r _ [355, 77, 116, 117, 5, 118, 94, 95, 96, 243, 244, 245, 180, 181, 182, 246, 247, 248, 249, 250, 251, 252, 253, 183, 184, 185, 417, 418, 419] (by decide +kernel) (by decide +kernel)
set_option maxRecDepth 20000 in
theorem gL_law_X3_copy : GoodIn wsL_law (wsV RL 55 RX3 yX3_copy wsX3_copy) := goodIn_app (goodIn_of _ (by decide +kernel)) ggL_law_X3_copy
set_option maxRecDepth 20000 in
theorem ggL_law_X2_volume : GoodIn wsL_law wsX2_volume := goodIn_r _ [359, 15, 101, 102, 2, 103, 208, 14, 209, 210, 21, 23, 337, 110, 111, 414, 415, 416, 420, 421, 422, 423, 424, 425, 426, 427, 428, 429, 430, 431, 432, 433, 434, 435, 436, 437, 438, 439, 440, 441, 442, 443, 444, 445, 446, 447, 448, 449] (by decide +kernel) (by decide +kernel)
set_option maxRecDepth 20000 in
theorem gL_law_X2_volume : GoodIn wsL_law (wsV RL 56 RX2 yX2_volume wsX2_volume) := goodIn_app (goodIn_of _ (by decide +kernel)) ggL_law_X2_volume
set_option maxRecDepth 20000 in
theorem ggL_law_X3_volume : GoodIn wsL_law wsX3_volume := goodIn_r _ [363, 77, 116, 117, 5, 118, 94, 95, 96, 250, 251, 252, 253, 417, 418, 419] (by decide +kernel) (by decide +kernel)
set_option maxRecDepth 20000 in
theorem gL_law_X3_volume : GoodIn wsL_law (wsV RL 59 RX3 yX3_volume wsX3_volume) := goodIn_app (goodIn_of _ (by decide +kernel)) ggL_law_X3_volume
set_option maxRecDepth 20000 in
theorem ggL_law_X2_reader : GoodIn wsL_law wsX2_reader := goodIn_r _ [367, 15, 101, 102, 2, 103, 337, 110, 111, 414, 415, 416, 420, 421, 422, 423, 424, 425, 426, 427, 428, 429, 430, 431, 432, 433, 434, 435, 436, 437, 438, 439, 440, 441, 442, 443, 444, 445, 446, 447, 448, 449] (by decide +kernel) (by decide +kernel)
set_option maxRecDepth 20000 in
theorem gL_law_X2_reader : GoodIn wsL_law (wsV RL 60 RX2 yX2_reader wsX2_reader) := goodIn_app (goodIn_of _ (by decide +kernel)) ggL_law_X2_reader
set_option maxRecDepth 20000 in
theorem ggL_law_X3_reader : GoodIn wsL_law wsX3_reader := goodIn_r _ [371, 77, 116, 117, 5, 118, 94, 95, 96, 81, 82, 83, 417, 418, 419] (by decide +kernel) (by decide +kernel)
set_option maxRecDepth 20000 in
theorem gL_law_X3_reader : GoodIn wsL_law (wsV RL 63 RX3 yX3_reader wsX3_reader) := goodIn_app (goodIn_of _ (by decide +kernel)) ggL_law_X3_reader
set_option maxRecDepth 20000 in
theorem ggL_law_X2_waiting : GoodIn wsL_law wsX2_waiting := goodIn_r _ [375, 15, 414, 415, 416, 420, 421, 422, 423, 424, 425, 426, 427, 428, 429, 430, 431, 432, 433, 434, 435, 436] (by decide +kernel) (by decide +kernel)
set_option maxRecDepth 20000 in
theorem gL_law_X2_waiting : GoodIn wsL_law (wsV RL 64 RX2 yX2_waiting wsX2_waiting) := goodIn_app (goodIn_of _ (by decide +kernel)) ggL_law_X2_waiting
set_option maxRecDepth 20000 in
theorem ggL_law_X3_waiting : GoodIn wsL_law wsX3_waiting := goodIn_r _ [379, 77, 94, 95, 5, 96, 417, 418, 419] (by decide +kernel) (by decide +kernel)
set_option maxRecDepth 20000 in
theorem gL_law_X3_waiting : GoodIn wsL_law (wsV RL 67 RX3 yX3_waiting wsX3_waiting) := goodIn_app (goodIn_of _ (by decide +kernel)) ggL_law_X3_waiting
set_option maxRecDepth 20000 in
theorem ggL_law_X2_count : GoodIn wsL_law wsX2_count := goodIn_r _ [383, 15, 17, 414, 415, 416, 420, 421, 422, 423, 424, 425, 426, 427, 428, 429, 430, 431, 432, 433, 434, 435, 436] (by decide +kernel) (by decide +kernel)
set_option maxRecDepth 20000 in
theorem gL_law_X2_count : GoodIn wsL_law (wsV RL 68 RX2 yX2_count wsX2_count) := goodIn_app (goodIn_of _ (by decide +kernel)) ggL_law_X2_count
set_option maxRecDepth 20000 in
theorem ggL_law_X3_count : GoodIn wsL_law wsX3_count := goodIn_r _ [387, 77, 80, 94, 95, 5, 96, 417, 418, 419] (by decide +kernel) (by decide +kernel)
set_option maxRecDepth 20000 in
theorem gL_law_X3_count : GoodIn wsL_law (wsV RL 71 RX3 yX3_count wsX3_count) := goodIn_app (goodIn_of _ (by decide +kernel)) ggL_law_X3_count
set_option maxRecDepth 20000 in
theorem ggL_law_X2_image : GoodIn wsL_law wsX2_image := goodIn_r _ [391, 16, 15, 17, 392, 393, 2, 394, 395, 14, 396, 397, 21, 23, 27, 28, 29, 30, 31, 32, 33, 34, 35, 36, 37, 38, 39, 40, 41, 62, 63, 64, 65, 66, 67, 68, 69, 70, 71, 398, 26, 399, 400, 45, 46, 47, 48, 49, 50, 51, 52, 53, 54, 55, 56, 57, 414, 415, 416, 420, 421, 422, 423, 424, 425, 426, 427, 428, 429, 430, 431, 432, 433, 434, 435, 436, 437, 438, 439, 440, 441, 442, 443, 444, 445, 446, 447, 448, 449] (by decide +kernel) (by decide +kernel)
set_option maxRecDepth 20000 in
theorem gL_law_X2_image : GoodIn wsL_law (wsV RL 72 RX2 yX2_image wsX2_image) := goodIn_app (goodIn_of _ (by decide +kernel)) ggL_law_X2_image
set_option maxRecDepth 20000 in
theorem ggL_law_X3_image : GoodIn wsL_law wsX3_image := goodIn_r _ [404, 78, 77, 80, 94, 95, 5, 96, 417, 418, 419] (by decide +kernel) (by decide +kernel)
set_option maxRecDepth 20000 in
theorem gL_law_X3_image : GoodIn wsL_law (wsV RL 75 RX3 yX3_image wsX3_image) := goodIn_app (goodIn_of _ (by decide +kernel)) ggL_law_X3_image
set_option maxRecDepth 20000 in
theorem ggL_law_X2_restore : GoodIn wsL_law wsX2_restore := goodIn_r _ [408, 17, 15, 16, 392, 393, 2, 394, 409, 147, 148, 395, 14, 396, 397, 21, 23, 27, 28, 29, 30, 31, 32, 33, 34, 35, 36, 37, 38, 39, 40, 41, 62, 63, 64, 65, 66, 67, 68, 69, 70, 71, 398, 26, 399, 400, 45, 46, 47, 48, 49, 50, 51, 52, 53, 54, 55, 56, 57, 414, 415, 416, 420, 421, 422, 423, 424, 425, 426, 427, 428, 429, 430, 431, 432, 433, 434, 435, 436, 437, 438, 439, 440, 441, 442, 443, 444, 445, 446, 447, 448, 449] (by decide +kernel) (by decide +kernel)
set_option maxRecDepth 20000 in
theorem gL_law_X2_restore : GoodIn wsL_law (wsV RL 76 RX2 yX2_restore wsX2_restore) := goodIn_app (goodIn_of _ (by decide +kernel)) ggL_law_X2_restore
set_option maxRecDepth 20000 in
theorem ggL_law_X3_restore : GoodIn wsL_law wsX3_restore := goodIn_r _ [413, 80, 77, 78, 94, 95, 5, 96, 417, 418, 419] (by decide +kernel) (by decide +kernel)
set_option maxRecDepth 20000 in
theorem gL_law_X3_restore : GoodIn wsL_law (wsV RL 79 RX3 yX3_restore wsX3_restore) := goodIn_app (goodIn_of _ (by decide +kernel)) ggL_law_X3_restore
theorem dL_law_0 : decode cL_law 0 = .ok (.new 7, 3) := by decide +kernel
theorem dL_law_3 : decode cL_law 3 = .ok (.dup, 1) := by decide +kernel
theorem dL_law_4 : decode cL_law 4 = .ok (.invokespecial 9, 3) := by decide +kernel
theorem dL_law_7 : decode cL_law 7 = .ok (.astore_n 1, 1) := by decide +kernel
theorem dL_law_8 : decode cL_law 8 = .ok (.new 10, 3) := by decide +kernel
theorem dL_law_11 : decode cL_law 11 = .ok (.dup, 1) := by decide +kernel
theorem dL_law_12 : decode cL_law 12 = .ok (.invokespecial 12, 3) := by decide +kernel
theorem dL_law_15 : decode cL_law 15 = .ok (.astore_n 2, 1) := by decide +kernel
theorem dL_law_16 : decode cL_law 16 = .ok (.iconst 0, 1) := by decide +kernel
theorem dL_law_17 : decode cL_law 17 = .ok (.istore_n 3, 1) := by decide +kernel
theorem dL_law_18 : decode cL_law 18 = .ok (.iload_n 3, 1) := by decide +kernel
theorem dL_law_19 : decode cL_law 19 = .ok (.aload_n 0, 1) := by decide +kernel
theorem dL_law_20 : decode cL_law 20 = .ok (.arraylength, 1) := by decide +kernel
theorem dL_law_21 : decode cL_law 21 = .ok (.iconst 4, 1) := by decide +kernel
theorem dL_law_22 : decode cL_law 22 = .ok (.isub, 1) := by decide +kernel
theorem dL_law_23 : decode cL_law 23 = .ok (.if_icmp .gt 573, 3) := by decide +kernel
theorem dL_law_26 : decode cL_law 26 = .ok (.aload_n 0, 1) := by decide +kernel
theorem dL_law_27 : decode cL_law 27 = .ok (.iload_n 3, 1) := by decide +kernel
theorem dL_law_28 : decode cL_law 28 = .ok (.iaload, 1) := by decide +kernel
theorem dL_law_29 : decode cL_law 29 = .ok (.bipush 15, 2) := by decide +kernel
theorem dL_law_31 : decode cL_law 31 = .ok (.iand, 1) := by decide +kernel
theorem dL_law_32 : decode cL_law 32 = .ok (.tableswitch 558 0 15 #[80, 113, 146, 179, 212, 245, 268, 291, 314, 347, 390, 433, 466, 489, 512, 535], 80) := by decide +kernel
theorem dL_law_112 : decode cL_law 112 = .ok (.aload_n 1, 1) := by decide +kernel
theorem dL_law_113 : decode cL_law 113 = .ok (.aload_n 0, 1) := by decide +kernel
theorem dL_law_114 : decode cL_law 114 = .ok (.iload_n 3, 1) := by decide +kernel
theorem dL_law_115 : decode cL_law 115 = .ok (.iconst 1, 1) := by decide +kernel
theorem dL_law_116 : decode cL_law 116 = .ok (.iadd, 1) := by decide +kernel
theorem dL_law_117 : decode cL_law 117 = .ok (.iaload, 1) := by decide +kernel
theorem dL_law_118 : decode cL_law 118 = .ok (.aload_n 0, 1) := by decide +kernel
theorem dL_law_119 : decode cL_law 119 = .ok (.iload_n 3, 1) := by decide +kernel
theorem dL_law_120 : decode cL_law 120 = .ok (.iconst 2, 1) := by decide +kernel
theorem dL_law_121 : decode cL_law 121 = .ok (.iadd, 1) := by decide +kernel
theorem dL_law_122 : decode cL_law 122 = .ok (.iaload, 1) := by decide +kernel
theorem dL_law_123 : decode cL_law 123 = .ok (.invokevirtual 13, 3) := by decide +kernel
theorem dL_law_126 : decode cL_law 126 = .ok (.aload_n 2, 1) := by decide +kernel
theorem dL_law_127 : decode cL_law 127 = .ok (.aload_n 0, 1) := by decide +kernel
theorem dL_law_128 : decode cL_law 128 = .ok (.iload_n 3, 1) := by decide +kernel
theorem dL_law_129 : decode cL_law 129 = .ok (.iconst 1, 1) := by decide +kernel
theorem dL_law_130 : decode cL_law 130 = .ok (.iadd, 1) := by decide +kernel
theorem dL_law_131 : decode cL_law 131 = .ok (.iaload, 1) := by decide +kernel
theorem dL_law_132 : decode cL_law 132 = .ok (.aload_n 0, 1) := by decide +kernel
theorem dL_law_133 : decode cL_law 133 = .ok (.iload_n 3, 1) := by decide +kernel
theorem dL_law_134 : decode cL_law 134 = .ok (.iconst 2, 1) := by decide +kernel
theorem dL_law_135 : decode cL_law 135 = .ok (.iadd, 1) := by decide +kernel
theorem dL_law_136 : decode cL_law 136 = .ok (.iaload, 1) := by decide +kernel
theorem dL_law_137 : decode cL_law 137 = .ok (.invokevirtual 17, 3) := by decide +kernel
theorem dL_law_140 : decode cL_law 140 = .ok (.if_icmp .eq 450, 3) := by decide +kernel
theorem dL_law_143 : decode cL_law 143 = .ok (.iconst 0, 1) := by decide +kernel
theorem dL_law_144 : decode cL_law 144 = .ok (.ireturn, 1) := by decide +kernel
theorem dL_law_145 : decode cL_law 145 = .ok (.aload_n 1, 1) := by decide +kernel
theorem dL_law_146 : decode cL_law 146 = .ok (.aload_n 0, 1) := by decide +kernel
theorem dL_law_147 : decode cL_law 147 = .ok (.iload_n 3, 1) := by decide +kernel
theorem dL_law_148 : decode cL_law 148 = .ok (.iconst 1, 1) := by decide +kernel
theorem dL_law_149 : decode cL_law 149 = .ok (.iadd, 1) := by decide +kernel
theorem dL_law_150 : decode cL_law 150 = .ok (.iaload, 1) := by decide +kernel
theorem dL_law_151 : decode cL_law 151 = .ok (.aload_n 0, 1) := by decide +kernel
theorem dL_law_152 : decode cL_law 152 = .ok (.iload_n 3, 1) := by decide +kernel
theorem dL_law_153 : decode cL_law 153 = .ok (.iconst 2, 1) := by decide +kernel
theorem dL_law_154 : decode cL_law 154 = .ok (.iadd, 1) := by decide +kernel
theorem dL_law_155 : decode cL_law 155 = .ok (.iaload, 1) := by decide +kernel
theorem dL_law_156 : decode cL_law 156 = .ok (.invokevirtual 18, 3) := by decide +kernel
theorem dL_law_159 : decode cL_law 159 = .ok (.aload_n 2, 1) := by decide +kernel
theorem dL_law_160 : decode cL_law 160 = .ok (.aload_n 0, 1) := by decide +kernel
theorem dL_law_161 : decode cL_law 161 = .ok (.iload_n 3, 1) := by decide +kernel
theorem dL_law_162 : decode cL_law 162 = .ok (.iconst 1, 1) := by decide +kernel
theorem dL_law_163 : decode cL_law 163 = .ok (.iadd, 1) := by decide +kernel
theorem dL_law_164 : decode cL_law 164 = .ok (.iaload, 1) := by decide +kernel
theorem dL_law_165 : decode cL_law 165 = .ok (.aload_n 0, 1) := by decide +kernel
theorem dL_law_166 : decode cL_law 166 = .ok (.iload_n 3, 1) := by decide +kernel
theorem dL_law_167 : decode cL_law 167 = .ok (.iconst 2, 1) := by decide +kernel
theorem dL_law_168 : decode cL_law 168 = .ok (.iadd, 1) := by decide +kernel
theorem dL_law_169 : decode cL_law 169 = .ok (.iaload, 1) := by decide +kernel
theorem dL_law_170 : decode cL_law 170 = .ok (.invokevirtual 21, 3) := by decide +kernel
theorem dL_law_173 : decode cL_law 173 = .ok (.if_icmp .eq 417, 3) := by decide +kernel
theorem dL_law_176 : decode cL_law 176 = .ok (.iconst 0, 1) := by decide +kernel
theorem dL_law_177 : decode cL_law 177 = .ok (.ireturn, 1) := by decide +kernel
theorem dL_law_178 : decode cL_law 178 = .ok (.aload_n 1, 1) := by decide +kernel
theorem dL_law_179 : decode cL_law 179 = .ok (.aload_n 0, 1) := by decide +kernel
theorem dL_law_180 : decode cL_law 180 = .ok (.iload_n 3, 1) := by decide +kernel
theorem dL_law_181 : decode cL_law 181 = .ok (.iconst 1, 1) := by decide +kernel
theorem dL_law_182 : decode cL_law 182 = .ok (.iadd, 1) := by decide +kernel
theorem dL_law_183 : decode cL_law 183 = .ok (.iaload, 1) := by decide +kernel
theorem dL_law_184 : decode cL_law 184 = .ok (.aload_n 0, 1) := by decide +kernel
theorem dL_law_185 : decode cL_law 185 = .ok (.iload_n 3, 1) := by decide +kernel
theorem dL_law_186 : decode cL_law 186 = .ok (.iconst 2, 1) := by decide +kernel
theorem dL_law_187 : decode cL_law 187 = .ok (.iadd, 1) := by decide +kernel
theorem dL_law_188 : decode cL_law 188 = .ok (.iaload, 1) := by decide +kernel
theorem dL_law_189 : decode cL_law 189 = .ok (.invokevirtual 22, 3) := by decide +kernel
theorem dL_law_192 : decode cL_law 192 = .ok (.aload_n 2, 1) := by decide +kernel
theorem dL_law_193 : decode cL_law 193 = .ok (.aload_n 0, 1) := by decide +kernel
theorem dL_law_194 : decode cL_law 194 = .ok (.iload_n 3, 1) := by decide +kernel
theorem dL_law_195 : decode cL_law 195 = .ok (.iconst 1, 1) := by decide +kernel
theorem dL_law_196 : decode cL_law 196 = .ok (.iadd, 1) := by decide +kernel
theorem dL_law_197 : decode cL_law 197 = .ok (.iaload, 1) := by decide +kernel
theorem dL_law_198 : decode cL_law 198 = .ok (.aload_n 0, 1) := by decide +kernel
theorem dL_law_199 : decode cL_law 199 = .ok (.iload_n 3, 1) := by decide +kernel
theorem dL_law_200 : decode cL_law 200 = .ok (.iconst 2, 1) := by decide +kernel
theorem dL_law_201 : decode cL_law 201 = .ok (.iadd, 1) := by decide +kernel
theorem dL_law_202 : decode cL_law 202 = .ok (.iaload, 1) := by decide +kernel
theorem dL_law_203 : decode cL_law 203 = .ok (.invokevirtual 25, 3) := by decide +kernel
theorem dL_law_206 : decode cL_law 206 = .ok (.if_icmp .eq 384, 3) := by decide +kernel
theorem dL_law_209 : decode cL_law 209 = .ok (.iconst 0, 1) := by decide +kernel
theorem dL_law_210 : decode cL_law 210 = .ok (.ireturn, 1) := by decide +kernel
theorem dL_law_211 : decode cL_law 211 = .ok (.aload_n 1, 1) := by decide +kernel
theorem dL_law_212 : decode cL_law 212 = .ok (.aload_n 0, 1) := by decide +kernel
theorem dL_law_213 : decode cL_law 213 = .ok (.iload_n 3, 1) := by decide +kernel
theorem dL_law_214 : decode cL_law 214 = .ok (.iconst 1, 1) := by decide +kernel
theorem dL_law_215 : decode cL_law 215 = .ok (.iadd, 1) := by decide +kernel
theorem dL_law_216 : decode cL_law 216 = .ok (.iaload, 1) := by decide +kernel
theorem dL_law_217 : decode cL_law 217 = .ok (.aload_n 0, 1) := by decide +kernel
theorem dL_law_218 : decode cL_law 218 = .ok (.iload_n 3, 1) := by decide +kernel
theorem dL_law_219 : decode cL_law 219 = .ok (.iconst 2, 1) := by decide +kernel
theorem dL_law_220 : decode cL_law 220 = .ok (.iadd, 1) := by decide +kernel
theorem dL_law_221 : decode cL_law 221 = .ok (.iaload, 1) := by decide +kernel
theorem dL_law_222 : decode cL_law 222 = .ok (.invokevirtual 26, 3) := by decide +kernel
theorem dL_law_225 : decode cL_law 225 = .ok (.aload_n 2, 1) := by decide +kernel
theorem dL_law_226 : decode cL_law 226 = .ok (.aload_n 0, 1) := by decide +kernel
theorem dL_law_227 : decode cL_law 227 = .ok (.iload_n 3, 1) := by decide +kernel
theorem dL_law_228 : decode cL_law 228 = .ok (.iconst 1, 1) := by decide +kernel
theorem dL_law_229 : decode cL_law 229 = .ok (.iadd, 1) := by decide +kernel
theorem dL_law_230 : decode cL_law 230 = .ok (.iaload, 1) := by decide +kernel
theorem dL_law_231 : decode cL_law 231 = .ok (.aload_n 0, 1) := by decide +kernel
theorem dL_law_232 : decode cL_law 232 = .ok (.iload_n 3, 1) := by decide +kernel
theorem dL_law_233 : decode cL_law 233 = .ok (.iconst 2, 1) := by decide +kernel
theorem dL_law_234 : decode cL_law 234 = .ok (.iadd, 1) := by decide +kernel
theorem dL_law_235 : decode cL_law 235 = .ok (.iaload, 1) := by decide +kernel
theorem dL_law_236 : decode cL_law 236 = .ok (.invokevirtual 29, 3) := by decide +kernel
theorem dL_law_239 : decode cL_law 239 = .ok (.if_icmp .eq 351, 3) := by decide +kernel
theorem dL_law_242 : decode cL_law 242 = .ok (.iconst 0, 1) := by decide +kernel
theorem dL_law_243 : decode cL_law 243 = .ok (.ireturn, 1) := by decide +kernel
theorem dL_law_244 : decode cL_law 244 = .ok (.aload_n 1, 1) := by decide +kernel
theorem dL_law_245 : decode cL_law 245 = .ok (.aload_n 0, 1) := by decide +kernel
theorem dL_law_246 : decode cL_law 246 = .ok (.iload_n 3, 1) := by decide +kernel
theorem dL_law_247 : decode cL_law 247 = .ok (.iconst 1, 1) := by decide +kernel
theorem dL_law_248 : decode cL_law 248 = .ok (.iadd, 1) := by decide +kernel
theorem dL_law_249 : decode cL_law 249 = .ok (.iaload, 1) := by decide +kernel
theorem dL_law_250 : decode cL_law 250 = .ok (.aload_n 0, 1) := by decide +kernel
theorem dL_law_251 : decode cL_law 251 = .ok (.iload_n 3, 1) := by decide +kernel
theorem dL_law_252 : decode cL_law 252 = .ok (.iconst 2, 1) := by decide +kernel
theorem dL_law_253 : decode cL_law 253 = .ok (.iadd, 1) := by decide +kernel
theorem dL_law_254 : decode cL_law 254 = .ok (.iaload, 1) := by decide +kernel
theorem dL_law_255 : decode cL_law 255 = .ok (.invokevirtual 30, 3) := by decide +kernel
theorem dL_law_258 : decode cL_law 258 = .ok (.aload_n 2, 1) := by decide +kernel
theorem dL_law_259 : decode cL_law 259 = .ok (.aload_n 0, 1) := by decide +kernel
theorem dL_law_260 : decode cL_law 260 = .ok (.iload_n 3, 1) := by decide +kernel
theorem dL_law_261 : decode cL_law 261 = .ok (.iconst 1, 1) := by decide +kernel
theorem dL_law_262 : decode cL_law 262 = .ok (.iadd, 1) := by decide +kernel
theorem dL_law_263 : decode cL_law 263 = .ok (.iaload, 1) := by decide +kernel
theorem dL_law_264 : decode cL_law 264 = .ok (.aload_n 0, 1) := by decide +kernel
theorem dL_law_265 : decode cL_law 265 = .ok (.iload_n 3, 1) := by decide +kernel
theorem dL_law_266 : decode cL_law 266 = .ok (.iconst 2, 1) := by decide +kernel
theorem dL_law_267 : decode cL_law 267 = .ok (.iadd, 1) := by decide +kernel
theorem dL_law_268 : decode cL_law 268 = .ok (.iaload, 1) := by decide +kernel
theorem dL_law_269 : decode cL_law 269 = .ok (.invokevirtual 33, 3) := by decide +kernel
theorem dL_law_272 : decode cL_law 272 = .ok (.if_icmp .eq 318, 3) := by decide +kernel
theorem dL_law_275 : decode cL_law 275 = .ok (.iconst 0, 1) := by decide +kernel
theorem dL_law_276 : decode cL_law 276 = .ok (.ireturn, 1) := by decide +kernel
theorem dL_law_277 : decode cL_law 277 = .ok (.aload_n 1, 1) := by decide +kernel
theorem dL_law_278 : decode cL_law 278 = .ok (.aload_n 0, 1) := by decide +kernel
theorem dL_law_279 : decode cL_law 279 = .ok (.iload_n 3, 1) := by decide +kernel
theorem dL_law_280 : decode cL_law 280 = .ok (.iconst 1, 1) := by decide +kernel
theorem dL_law_281 : decode cL_law 281 = .ok (.iadd, 1) := by decide +kernel
theorem dL_law_282 : decode cL_law 282 = .ok (.iaload, 1) := by decide +kernel
theorem dL_law_283 : decode cL_law 283 = .ok (.invokevirtual 34, 3) := by decide +kernel
theorem dL_law_286 : decode cL_law 286 = .ok (.aload_n 2, 1) := by decide +kernel
theorem dL_law_287 : decode cL_law 287 = .ok (.aload_n 0, 1) := by decide +kernel
theorem dL_law_288 : decode cL_law 288 = .ok (.iload_n 3, 1) := by decide +kernel
theorem dL_law_289 : decode cL_law 289 = .ok (.iconst 1, 1) := by decide +kernel
theorem dL_law_290 : decode cL_law 290 = .ok (.iadd, 1) := by decide +kernel
theorem dL_law_291 : decode cL_law 291 = .ok (.iaload, 1) := by decide +kernel
theorem dL_law_292 : decode cL_law 292 = .ok (.invokevirtual 38, 3) := by decide +kernel
theorem dL_law_295 : decode cL_law 295 = .ok (.if_icmp .eq 295, 3) := by decide +kernel
theorem dL_law_298 : decode cL_law 298 = .ok (.iconst 0, 1) := by decide +kernel
theorem dL_law_299 : decode cL_law 299 = .ok (.ireturn, 1) := by decide +kernel
theorem dL_law_300 : decode cL_law 300 = .ok (.aload_n 1, 1) := by decide +kernel
theorem dL_law_301 : decode cL_law 301 = .ok (.aload_n 0, 1) := by decide +kernel
theorem dL_law_302 : decode cL_law 302 = .ok (.iload_n 3, 1) := by decide +kernel
theorem dL_law_303 : decode cL_law 303 = .ok (.iconst 1, 1) := by decide +kernel
theorem dL_law_304 : decode cL_law 304 = .ok (.iadd, 1) := by decide +kernel
theorem dL_law_305 : decode cL_law 305 = .ok (.iaload, 1) := by decide +kernel
theorem dL_law_306 : decode cL_law 306 = .ok (.invokevirtual 39, 3) := by decide +kernel
theorem dL_law_309 : decode cL_law 309 = .ok (.aload_n 2, 1) := by decide +kernel
theorem dL_law_310 : decode cL_law 310 = .ok (.aload_n 0, 1) := by decide +kernel
theorem dL_law_311 : decode cL_law 311 = .ok (.iload_n 3, 1) := by decide +kernel
theorem dL_law_312 : decode cL_law 312 = .ok (.iconst 1, 1) := by decide +kernel
theorem dL_law_313 : decode cL_law 313 = .ok (.iadd, 1) := by decide +kernel
theorem dL_law_314 : decode cL_law 314 = .ok (.iaload, 1) := by decide +kernel
theorem dL_law_315 : decode cL_law 315 = .ok (.invokevirtual 42, 3) := by decide +kernel
theorem dL_law_318 : decode cL_law 318 = .ok (.if_icmp .eq 272, 3) := by decide +kernel
theorem dL_law_321 : decode cL_law 321 = .ok (.iconst 0, 1) := by decide +kernel
theorem dL_law_322 : decode cL_law 322 = .ok (.ireturn, 1) := by decide +kernel
theorem dL_law_323 : decode cL_law 323 = .ok (.aload_n 1, 1) := by decide +kernel
theorem dL_law_324 : decode cL_law 324 = .ok (.aload_n 0, 1) := by decide +kernel
theorem dL_law_325 : decode cL_law 325 = .ok (.iload_n 3, 1) := by decide +kernel
theorem dL_law_326 : decode cL_law 326 = .ok (.iconst 1, 1) := by decide +kernel
theorem dL_law_327 : decode cL_law 327 = .ok (.iadd, 1) := by decide +kernel
theorem dL_law_328 : decode cL_law 328 = .ok (.iaload, 1) := by decide +kernel
theorem dL_law_329 : decode cL_law 329 = .ok (.invokevirtual 43, 3) := by decide +kernel
theorem dL_law_332 : decode cL_law 332 = .ok (.aload_n 2, 1) := by decide +kernel
theorem dL_law_333 : decode cL_law 333 = .ok (.aload_n 0, 1) := by decide +kernel
theorem dL_law_334 : decode cL_law 334 = .ok (.iload_n 3, 1) := by decide +kernel
theorem dL_law_335 : decode cL_law 335 = .ok (.iconst 1, 1) := by decide +kernel
theorem dL_law_336 : decode cL_law 336 = .ok (.iadd, 1) := by decide +kernel
theorem dL_law_337 : decode cL_law 337 = .ok (.iaload, 1) := by decide +kernel
theorem dL_law_338 : decode cL_law 338 = .ok (.invokevirtual 46, 3) := by decide +kernel
theorem dL_law_341 : decode cL_law 341 = .ok (.if_icmp .eq 249, 3) := by decide +kernel
theorem dL_law_344 : decode cL_law 344 = .ok (.iconst 0, 1) := by decide +kernel
theorem dL_law_345 : decode cL_law 345 = .ok (.ireturn, 1) := by decide +kernel
theorem dL_law_346 : decode cL_law 346 = .ok (.aload_n 1, 1) := by decide +kernel
theorem dL_law_347 : decode cL_law 347 = .ok (.aload_n 0, 1) := by decide +kernel
theorem dL_law_348 : decode cL_law 348 = .ok (.iload_n 3, 1) := by decide +kernel
theorem dL_law_349 : decode cL_law 349 = .ok (.iconst 1, 1) := by decide +kernel
theorem dL_law_350 : decode cL_law 350 = .ok (.iadd, 1) := by decide +kernel
theorem dL_law_351 : decode cL_law 351 = .ok (.iaload, 1) := by decide +kernel
theorem dL_law_352 : decode cL_law 352 = .ok (.aload_n 0, 1) := by decide +kernel
theorem dL_law_353 : decode cL_law 353 = .ok (.iload_n 3, 1) := by decide +kernel
theorem dL_law_354 : decode cL_law 354 = .ok (.iconst 2, 1) := by decide +kernel
theorem dL_law_355 : decode cL_law 355 = .ok (.iadd, 1) := by decide +kernel
theorem dL_law_356 : decode cL_law 356 = .ok (.iaload, 1) := by decide +kernel
theorem dL_law_357 : decode cL_law 357 = .ok (.invokevirtual 47, 3) := by decide +kernel
theorem dL_law_360 : decode cL_law 360 = .ok (.aload_n 2, 1) := by decide +kernel
theorem dL_law_361 : decode cL_law 361 = .ok (.aload_n 0, 1) := by decide +kernel
theorem dL_law_362 : decode cL_law 362 = .ok (.iload_n 3, 1) := by decide +kernel
theorem dL_law_363 : decode cL_law 363 = .ok (.iconst 1, 1) := by decide +kernel
theorem dL_law_364 : decode cL_law 364 = .ok (.iadd, 1) := by decide +kernel
theorem dL_law_365 : decode cL_law 365 = .ok (.iaload, 1) := by decide +kernel
theorem dL_law_366 : decode cL_law 366 = .ok (.aload_n 0, 1) := by decide +kernel
theorem dL_law_367 : decode cL_law 367 = .ok (.iload_n 3, 1) := by decide +kernel
theorem dL_law_368 : decode cL_law 368 = .ok (.iconst 2, 1) := by decide +kernel
theorem dL_law_369 : decode cL_law 369 = .ok (.iadd, 1) := by decide +kernel
theorem dL_law_370 : decode cL_law 370 = .ok (.iaload, 1) := by decide +kernel
theorem dL_law_371 : decode cL_law 371 = .ok (.invokevirtual 50, 3) := by decide +kernel
theorem dL_law_374 : decode cL_law 374 = .ok (.if_icmp .eq 216, 3) := by decide +kernel
theorem dL_law_377 : decode cL_law 377 = .ok (.iconst 0, 1) := by decide +kernel
theorem dL_law_378 : decode cL_law 378 = .ok (.ireturn, 1) := by decide +kernel
theorem dL_law_379 : decode cL_law 379 = .ok (.aload_n 1, 1) := by decide +kernel
theorem dL_law_380 : decode cL_law 380 = .ok (.aload_n 0, 1) := by decide +kernel
theorem dL_law_381 : decode cL_law 381 = .ok (.iload_n 3, 1) := by decide +kernel
theorem dL_law_382 : decode cL_law 382 = .ok (.iconst 1, 1) := by decide +kernel
theorem dL_law_383 : decode cL_law 383 = .ok (.iadd, 1) := by decide +kernel
theorem dL_law_384 : decode cL_law 384 = .ok (.iaload, 1) := by decide +kernel
theorem dL_law_385 : decode cL_law 385 = .ok (.aload_n 0, 1) := by decide +kernel
theorem dL_law_386 : decode cL_law 386 = .ok (.iload_n 3, 1) := by decide +kernel
theorem dL_law_387 : decode cL_law 387 = .ok (.iconst 2, 1) := by decide +kernel
theorem dL_law_388 : decode cL_law 388 = .ok (.iadd, 1) := by decide +kernel
theorem dL_law_389 : decode cL_law 389 = .ok (.iaload, 1) := by decide +kernel
theorem dL_law_390 : decode cL_law 390 = .ok (.aload_n 0, 1) := by decide +kernel
theorem dL_law_391 : decode cL_law 391 = .ok (.iload_n 3, 1) := by decide +kernel
theorem dL_law_392 : decode cL_law 392 = .ok (.iconst 3, 1) := by decide +kernel
theorem dL_law_393 : decode cL_law 393 = .ok (.iadd, 1) := by decide +kernel
theorem dL_law_394 : decode cL_law 394 = .ok (.iaload, 1) := by decide +kernel
theorem dL_law_395 : decode cL_law 395 = .ok (.invokevirtual 51, 3) := by decide +kernel
theorem dL_law_398 : decode cL_law 398 = .ok (.aload_n 2, 1) := by decide +kernel
theorem dL_law_399 : decode cL_law 399 = .ok (.aload_n 0, 1) := by decide +kernel
theorem dL_law_400 : decode cL_law 400 = .ok (.iload_n 3, 1) := by decide +kernel
theorem dL_law_401 : decode cL_law 401 = .ok (.iconst 1, 1) := by decide +kernel
theorem dL_law_402 : decode cL_law 402 = .ok (.iadd, 1) := by decide +kernel
theorem dL_law_403 : decode cL_law 403 = .ok (.iaload, 1) := by decide +kernel
theorem dL_law_404 : decode cL_law 404 = .ok (.aload_n 0, 1) := by decide +kernel
theorem dL_law_405 : decode cL_law 405 = .ok (.iload_n 3, 1) := by decide +kernel
theorem dL_law_406 : decode cL_law 406 = .ok (.iconst 2, 1) := by decide +kernel
theorem dL_law_407 : decode cL_law 407 = .ok (.iadd, 1) := by decide +kernel
theorem dL_law_408 : decode cL_law 408 = .ok (.iaload, 1) := by decide +kernel
theorem dL_law_409 : decode cL_law 409 = .ok (.aload_n 0, 1) := by decide +kernel
theorem dL_law_410 : decode cL_law 410 = .ok (.iload_n 3, 1) := by decide +kernel
theorem dL_law_411 : decode cL_law 411 = .ok (.iconst 3, 1) := by decide +kernel
theorem dL_law_412 : decode cL_law 412 = .ok (.iadd, 1) := by decide +kernel
theorem dL_law_413 : decode cL_law 413 = .ok (.iaload, 1) := by decide +kernel
theorem dL_law_414 : decode cL_law 414 = .ok (.invokevirtual 55, 3) := by decide +kernel
theorem dL_law_417 : decode cL_law 417 = .ok (.if_icmp .eq 173, 3) := by decide +kernel
theorem dL_law_420 : decode cL_law 420 = .ok (.iconst 0, 1) := by decide +kernel
theorem dL_law_421 : decode cL_law 421 = .ok (.ireturn, 1) := by decide +kernel
theorem dL_law_422 : decode cL_law 422 = .ok (.aload_n 1, 1) := by decide +kernel
theorem dL_law_423 : decode cL_law 423 = .ok (.aload_n 0, 1) := by decide +kernel
theorem dL_law_424 : decode cL_law 424 = .ok (.iload_n 3, 1) := by decide +kernel
theorem dL_law_425 : decode cL_law 425 = .ok (.iconst 1, 1) := by decide +kernel
theorem dL_law_426 : decode cL_law 426 = .ok (.iadd, 1) := by decide +kernel
theorem dL_law_427 : decode cL_law 427 = .ok (.iaload, 1) := by decide +kernel
theorem dL_law_428 : decode cL_law 428 = .ok (.aload_n 0, 1) := by decide +kernel
theorem dL_law_429 : decode cL_law 429 = .ok (.iload_n 3, 1) := by decide +kernel
theorem dL_law_430 : decode cL_law 430 = .ok (.iconst 2, 1) := by decide +kernel
theorem dL_law_431 : decode cL_law 431 = .ok (.iadd, 1) := by decide +kernel
theorem dL_law_432 : decode cL_law 432 = .ok (.iaload, 1) := by decide +kernel
theorem dL_law_433 : decode cL_law 433 = .ok (.aload_n 0, 1) := by decide +kernel
theorem dL_law_434 : decode cL_law 434 = .ok (.iload_n 3, 1) := by decide +kernel
theorem dL_law_435 : decode cL_law 435 = .ok (.iconst 3, 1) := by decide +kernel
theorem dL_law_436 : decode cL_law 436 = .ok (.iadd, 1) := by decide +kernel
theorem dL_law_437 : decode cL_law 437 = .ok (.iaload, 1) := by decide +kernel
theorem dL_law_438 : decode cL_law 438 = .ok (.invokevirtual 56, 3) := by decide +kernel
theorem dL_law_441 : decode cL_law 441 = .ok (.aload_n 2, 1) := by decide +kernel
theorem dL_law_442 : decode cL_law 442 = .ok (.aload_n 0, 1) := by decide +kernel
theorem dL_law_443 : decode cL_law 443 = .ok (.iload_n 3, 1) := by decide +kernel
theorem dL_law_444 : decode cL_law 444 = .ok (.iconst 1, 1) := by decide +kernel
theorem dL_law_445 : decode cL_law 445 = .ok (.iadd, 1) := by decide +kernel
theorem dL_law_446 : decode cL_law 446 = .ok (.iaload, 1) := by decide +kernel
theorem dL_law_447 : decode cL_law 447 = .ok (.aload_n 0, 1) := by decide +kernel
theorem dL_law_448 : decode cL_law 448 = .ok (.iload_n 3, 1) := by decide +kernel
theorem dL_law_449 : decode cL_law 449 = .ok (.iconst 2, 1) := by decide +kernel
theorem dL_law_450 : decode cL_law 450 = .ok (.iadd, 1) := by decide +kernel
theorem dL_law_451 : decode cL_law 451 = .ok (.iaload, 1) := by decide +kernel
theorem dL_law_452 : decode cL_law 452 = .ok (.aload_n 0, 1) := by decide +kernel
theorem dL_law_453 : decode cL_law 453 = .ok (.iload_n 3, 1) := by decide +kernel
theorem dL_law_454 : decode cL_law 454 = .ok (.iconst 3, 1) := by decide +kernel
theorem dL_law_455 : decode cL_law 455 = .ok (.iadd, 1) := by decide +kernel
theorem dL_law_456 : decode cL_law 456 = .ok (.iaload, 1) := by decide +kernel
theorem dL_law_457 : decode cL_law 457 = .ok (.invokevirtual 59, 3) := by decide +kernel
theorem dL_law_460 : decode cL_law 460 = .ok (.if_icmp .eq 130, 3) := by decide +kernel
theorem dL_law_463 : decode cL_law 463 = .ok (.iconst 0, 1) := by decide +kernel
theorem dL_law_464 : decode cL_law 464 = .ok (.ireturn, 1) := by decide +kernel
theorem dL_law_465 : decode cL_law 465 = .ok (.aload_n 1, 1) := by decide +kernel
theorem dL_law_466 : decode cL_law 466 = .ok (.aload_n 0, 1) := by decide +kernel
theorem dL_law_467 : decode cL_law 467 = .ok (.iload_n 3, 1) := by decide +kernel
theorem dL_law_468 : decode cL_law 468 = .ok (.iconst 1, 1) := by decide +kernel
theorem dL_law_469 : decode cL_law 469 = .ok (.iadd, 1) := by decide +kernel
theorem dL_law_470 : decode cL_law 470 = .ok (.iaload, 1) := by decide +kernel
theorem dL_law_471 : decode cL_law 471 = .ok (.aload_n 0, 1) := by decide +kernel
theorem dL_law_472 : decode cL_law 472 = .ok (.iload_n 3, 1) := by decide +kernel
theorem dL_law_473 : decode cL_law 473 = .ok (.iconst 2, 1) := by decide +kernel
theorem dL_law_474 : decode cL_law 474 = .ok (.iadd, 1) := by decide +kernel
theorem dL_law_475 : decode cL_law 475 = .ok (.iaload, 1) := by decide +kernel
theorem dL_law_476 : decode cL_law 476 = .ok (.invokevirtual 60, 3) := by decide +kernel
theorem dL_law_479 : decode cL_law 479 = .ok (.aload_n 2, 1) := by decide +kernel
theorem dL_law_480 : decode cL_law 480 = .ok (.aload_n 0, 1) := by decide +kernel
theorem dL_law_481 : decode cL_law 481 = .ok (.iload_n 3, 1) := by decide +kernel
theorem dL_law_482 : decode cL_law 482 = .ok (.iconst 1, 1) := by decide +kernel
theorem dL_law_483 : decode cL_law 483 = .ok (.iadd, 1) := by decide +kernel
theorem dL_law_484 : decode cL_law 484 = .ok (.iaload, 1) := by decide +kernel
theorem dL_law_485 : decode cL_law 485 = .ok (.aload_n 0, 1) := by decide +kernel
theorem dL_law_486 : decode cL_law 486 = .ok (.iload_n 3, 1) := by decide +kernel
theorem dL_law_487 : decode cL_law 487 = .ok (.iconst 2, 1) := by decide +kernel
theorem dL_law_488 : decode cL_law 488 = .ok (.iadd, 1) := by decide +kernel
theorem dL_law_489 : decode cL_law 489 = .ok (.iaload, 1) := by decide +kernel
theorem dL_law_490 : decode cL_law 490 = .ok (.invokevirtual 63, 3) := by decide +kernel
theorem dL_law_493 : decode cL_law 493 = .ok (.if_icmp .eq 97, 3) := by decide +kernel
theorem dL_law_496 : decode cL_law 496 = .ok (.iconst 0, 1) := by decide +kernel
theorem dL_law_497 : decode cL_law 497 = .ok (.ireturn, 1) := by decide +kernel
theorem dL_law_498 : decode cL_law 498 = .ok (.aload_n 1, 1) := by decide +kernel
theorem dL_law_499 : decode cL_law 499 = .ok (.aload_n 0, 1) := by decide +kernel
theorem dL_law_500 : decode cL_law 500 = .ok (.iload_n 3, 1) := by decide +kernel
theorem dL_law_501 : decode cL_law 501 = .ok (.iconst 1, 1) := by decide +kernel
theorem dL_law_502 : decode cL_law 502 = .ok (.iadd, 1) := by decide +kernel
theorem dL_law_503 : decode cL_law 503 = .ok (.iaload, 1) := by decide +kernel
theorem dL_law_504 : decode cL_law 504 = .ok (.invokevirtual 64, 3) := by decide +kernel
theorem dL_law_507 : decode cL_law 507 = .ok (.aload_n 2, 1) := by decide +kernel
theorem dL_law_508 : decode cL_law 508 = .ok (.aload_n 0, 1) := by decide +kernel
theorem dL_law_509 : decode cL_law 509 = .ok (.iload_n 3, 1) := by decide +kernel
theorem dL_law_510 : decode cL_law 510 = .ok (.iconst 1, 1) := by decide +kernel
theorem dL_law_511 : decode cL_law 511 = .ok (.iadd, 1) := by decide +kernel
theorem dL_law_512 : decode cL_law 512 = .ok (.iaload, 1) := by decide +kernel
theorem dL_law_513 : decode cL_law 513 = .ok (.invokevirtual 67, 3) := by decide +kernel
theorem dL_law_516 : decode cL_law 516 = .ok (.if_icmp .eq 74, 3) := by decide +kernel
theorem dL_law_519 : decode cL_law 519 = .ok (.iconst 0, 1) := by decide +kernel
theorem dL_law_520 : decode cL_law 520 = .ok (.ireturn, 1) := by decide +kernel
theorem dL_law_521 : decode cL_law 521 = .ok (.aload_n 1, 1) := by decide +kernel
theorem dL_law_522 : decode cL_law 522 = .ok (.aload_n 0, 1) := by decide +kernel
theorem dL_law_523 : decode cL_law 523 = .ok (.iload_n 3, 1) := by decide +kernel
theorem dL_law_524 : decode cL_law 524 = .ok (.iconst 1, 1) := by decide +kernel
theorem dL_law_525 : decode cL_law 525 = .ok (.iadd, 1) := by decide +kernel
theorem dL_law_526 : decode cL_law 526 = .ok (.iaload, 1) := by decide +kernel
theorem dL_law_527 : decode cL_law 527 = .ok (.invokevirtual 68, 3) := by decide +kernel
theorem dL_law_530 : decode cL_law 530 = .ok (.aload_n 2, 1) := by decide +kernel
theorem dL_law_531 : decode cL_law 531 = .ok (.aload_n 0, 1) := by decide +kernel
theorem dL_law_532 : decode cL_law 532 = .ok (.iload_n 3, 1) := by decide +kernel
theorem dL_law_533 : decode cL_law 533 = .ok (.iconst 1, 1) := by decide +kernel
theorem dL_law_534 : decode cL_law 534 = .ok (.iadd, 1) := by decide +kernel
theorem dL_law_535 : decode cL_law 535 = .ok (.iaload, 1) := by decide +kernel
theorem dL_law_536 : decode cL_law 536 = .ok (.invokevirtual 71, 3) := by decide +kernel
theorem dL_law_539 : decode cL_law 539 = .ok (.if_icmp .eq 51, 3) := by decide +kernel
theorem dL_law_542 : decode cL_law 542 = .ok (.iconst 0, 1) := by decide +kernel
theorem dL_law_543 : decode cL_law 543 = .ok (.ireturn, 1) := by decide +kernel
theorem dL_law_544 : decode cL_law 544 = .ok (.aload_n 1, 1) := by decide +kernel
theorem dL_law_545 : decode cL_law 545 = .ok (.aload_n 0, 1) := by decide +kernel
theorem dL_law_546 : decode cL_law 546 = .ok (.iload_n 3, 1) := by decide +kernel
theorem dL_law_547 : decode cL_law 547 = .ok (.iconst 1, 1) := by decide +kernel
theorem dL_law_548 : decode cL_law 548 = .ok (.iadd, 1) := by decide +kernel
theorem dL_law_549 : decode cL_law 549 = .ok (.iaload, 1) := by decide +kernel
theorem dL_law_550 : decode cL_law 550 = .ok (.invokevirtual 72, 3) := by decide +kernel
theorem dL_law_553 : decode cL_law 553 = .ok (.aload_n 2, 1) := by decide +kernel
theorem dL_law_554 : decode cL_law 554 = .ok (.aload_n 0, 1) := by decide +kernel
theorem dL_law_555 : decode cL_law 555 = .ok (.iload_n 3, 1) := by decide +kernel
theorem dL_law_556 : decode cL_law 556 = .ok (.iconst 1, 1) := by decide +kernel
theorem dL_law_557 : decode cL_law 557 = .ok (.iadd, 1) := by decide +kernel
theorem dL_law_558 : decode cL_law 558 = .ok (.iaload, 1) := by decide +kernel
theorem dL_law_559 : decode cL_law 559 = .ok (.invokevirtual 75, 3) := by decide +kernel
theorem dL_law_562 : decode cL_law 562 = .ok (.if_icmp .eq 28, 3) := by decide +kernel
theorem dL_law_565 : decode cL_law 565 = .ok (.iconst 0, 1) := by decide +kernel
theorem dL_law_566 : decode cL_law 566 = .ok (.ireturn, 1) := by decide +kernel
theorem dL_law_567 : decode cL_law 567 = .ok (.aload_n 1, 1) := by decide +kernel
theorem dL_law_568 : decode cL_law 568 = .ok (.aload_n 0, 1) := by decide +kernel
theorem dL_law_569 : decode cL_law 569 = .ok (.iload_n 3, 1) := by decide +kernel
theorem dL_law_570 : decode cL_law 570 = .ok (.iconst 1, 1) := by decide +kernel
theorem dL_law_571 : decode cL_law 571 = .ok (.iadd, 1) := by decide +kernel
theorem dL_law_572 : decode cL_law 572 = .ok (.iaload, 1) := by decide +kernel
theorem dL_law_573 : decode cL_law 573 = .ok (.invokevirtual 76, 3) := by decide +kernel
theorem dL_law_576 : decode cL_law 576 = .ok (.aload_n 2, 1) := by decide +kernel
theorem dL_law_577 : decode cL_law 577 = .ok (.aload_n 0, 1) := by decide +kernel
theorem dL_law_578 : decode cL_law 578 = .ok (.iload_n 3, 1) := by decide +kernel
theorem dL_law_579 : decode cL_law 579 = .ok (.iconst 1, 1) := by decide +kernel
theorem dL_law_580 : decode cL_law 580 = .ok (.iadd, 1) := by decide +kernel
theorem dL_law_581 : decode cL_law 581 = .ok (.iaload, 1) := by decide +kernel
theorem dL_law_582 : decode cL_law 582 = .ok (.invokevirtual 79, 3) := by decide +kernel
theorem dL_law_585 : decode cL_law 585 = .ok (.if_icmp .eq 5, 3) := by decide +kernel
theorem dL_law_588 : decode cL_law 588 = .ok (.iconst 0, 1) := by decide +kernel
theorem dL_law_589 : decode cL_law 589 = .ok (.ireturn, 1) := by decide +kernel
theorem dL_law_590 : decode cL_law 590 = .ok (.iinc 3 4, 3) := by decide +kernel
theorem dL_law_593 : decode cL_law 593 = .ok (.goto (-575), 3) := by decide +kernel
theorem dL_law_596 : decode cL_law 596 = .ok (.iconst 1, 1) := by decide +kernel
theorem dL_law_597 : decode cL_law 597 = .ok (.ireturn, 1) := by decide +kernel
