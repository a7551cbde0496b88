set_option maxRecDepth 20000 in
theorem ggX0_init_X1_init : GoodIn wsX0_init wsX1_init := goodIn_r _ [26, 27, 2, 3, 28, 29, 5, 30, 31, 32, 33, 34, 35, 36, 37, 38, 39, 40, 41, 42, 43, 44, 74, 75, 76, 77, 78, 79, 80, 81, 82, 83, 84, 85, 86] (by decide +kernel) (by decide +kernel)
set_option maxRecDepth 20000 in
theorem gX0_init_X1_init_n21 : GoodIn wsX0_init (wsX1_init) := ggX0_init_X1_init
set_option maxRecDepth 20000 in
theorem ggX0_init_X2_copyRow : GoodIn wsX0_init wsX2_copyRow := goodIn_r _ [47, 48, 49, 50, 51, 52, 53, 54, 55] (by decide +kernel) (by decide +kernel)
set_option maxRecDepth 20000 in
theorem gX0_init_X2_copyRow_n71 : GoodIn wsX0_init (wsX2_copyRow) := ggX0_init_X2_copyRow
set_option maxRecDepth 20000 in
theorem ggX0_init_J7_fill_53178 : GoodIn wsX0_init wsJ7_fill_53178 := goodIn_r _ [44] (by decide +kernel) (by decide +kernel)
set_option maxRecDepth 20000 in
theorem gX0_init_J7_fill_53178 : GoodIn wsX0_init (va_wsS RX0 75 yJ7_fill_53178 wsJ7_fill_53178) := goodIn_app (goodIn_of _ (by decide +kernel)) ggX0_init_J7_fill_53178
theorem dX0_init_0 : decode cX0_init 0 = .ok (.aload_n 0, 1) := by decide +kernel
theorem dX0_init_1 : decode cX0_init 1 = .ok (.invokespecial 3, 3) := by decide +kernel
theorem dX0_init_4 : decode cX0_init 4 = .ok (.aload_n 0, 1) := by decide +kernel
theorem dX0_init_5 : decode cX0_init 5 = .ok (.iconst 0, 1) := by decide +kernel
theorem dX0_init_6 : decode cX0_init 6 = .ok (.putfield 9, 3) := by decide +kernel
theorem dX0_init_9 : decode cX0_init 9 = .ok (.aload_n 0, 1) := by decide +kernel
theorem dX0_init_10 : decode cX0_init 10 = .ok (.iconst 4, 1) := by decide +kernel
theorem dX0_init_11 : decode cX0_init 11 = .ok (.newarray .int, 2) := by decide +kernel
theorem dX0_init_13 : decode cX0_init 13 = .ok (.putfield 15, 3) := by decide +kernel
theorem dX0_init_16 : decode cX0_init 16 = .ok (.aload_n 0, 1) := by decide +kernel
theorem dX0_init_17 : decode cX0_init 17 = .ok (.iconst 5, 1) := by decide +kernel
theorem dX0_init_18 : decode cX0_init 18 = .ok (.anewarray 19, 3) := by decide +kernel
theorem dX0_init_21 : decode cX0_init 21 = .ok (.dup, 1) := by decide +kernel
theorem dX0_init_22 : decode cX0_init 22 = .ok (.iconst 0, 1) := by decide +kernel
theorem dX0_init_23 : decode cX0_init 23 = .ok (.new 19, 3) := by decide +kernel
theorem dX0_init_26 : decode cX0_init 26 = .ok (.dup, 1) := by decide +kernel
theorem dX0_init_27 : decode cX0_init 27 = .ok (.invokespecial 21, 3) := by decide +kernel
theorem dX0_init_30 : decode cX0_init 30 = .ok (.aastore, 1) := by decide +kernel
theorem dX0_init_31 : decode cX0_init 31 = .ok (.dup, 1) := by decide +kernel
theorem dX0_init_32 : decode cX0_init 32 = .ok (.iconst 1, 1) := by decide +kernel
theorem dX0_init_33 : decode cX0_init 33 = .ok (.new 19, 3) := by decide +kernel
theorem dX0_init_36 : decode cX0_init 36 = .ok (.dup, 1) := by decide +kernel
theorem dX0_init_37 : decode cX0_init 37 = .ok (.invokespecial 21, 3) := by decide +kernel
theorem dX0_init_40 : decode cX0_init 40 = .ok (.aastore, 1) := by decide +kernel
theorem dX0_init_41 : decode cX0_init 41 = .ok (.dup, 1) := by decide +kernel
theorem dX0_init_42 : decode cX0_init 42 = .ok (.iconst 2, 1) := by decide +kernel
theorem dX0_init_43 : decode cX0_init 43 = .ok (.new 19, 3) := by decide +kernel
theorem dX0_init_46 : decode cX0_init 46 = .ok (.dup, 1) := by decide +kernel
theorem dX0_init_47 : decode cX0_init 47 = .ok (.invokespecial 21, 3) := by decide +kernel
theorem dX0_init_50 : decode cX0_init 50 = .ok (.aastore, 1) := by decide +kernel
theorem dX0_init_51 : decode cX0_init 51 = .ok (.dup, 1) := by decide +kernel
theorem dX0_init_52 : decode cX0_init 52 = .ok (.iconst 3, 1) := by decide +kernel
theorem dX0_init_53 : decode cX0_init 53 = .ok (.new 19, 3) := by decide +kernel
theorem dX0_init_56 : decode cX0_init 56 = .ok (.dup, 1) := by decide +kernel
theorem dX0_init_57 : decode cX0_init 57 = .ok (.invokespecial 21, 3) := by decide +kernel
theorem dX0_init_60 : decode cX0_init 60 = .ok (.aastore, 1) := by decide +kernel
theorem dX0_init_61 : decode cX0_init 61 = .ok (.dup, 1) := by decide +kernel
theorem dX0_init_62 : decode cX0_init 62 = .ok (.iconst 4, 1) := by decide +kernel
theorem dX0_init_63 : decode cX0_init 63 = .ok (.new 19, 3) := by decide +kernel
theorem dX0_init_66 : decode cX0_init 66 = .ok (.dup, 1) := by decide +kernel
theorem dX0_init_67 : decode cX0_init 67 = .ok (.invokespecial 21, 3) := by decide +kernel
theorem dX0_init_70 : decode cX0_init 70 = .ok (.aastore, 1) := by decide +kernel
theorem dX0_init_71 : decode cX0_init 71 = .ok (.putfield 22, 3) := by decide +kernel
theorem dX0_init_74 : decode cX0_init 74 = .ok (.aload_n 0, 1) := by decide +kernel
theorem dX0_init_75 : decode cX0_init 75 = .ok (.bipush 12, 2) := by decide +kernel
theorem dX0_init_77 : decode cX0_init 77 = .ok (.newarray .int, 2) := by decide +kernel
theorem dX0_init_79 : decode cX0_init 79 = .ok (.putfield 26, 3) := by decide +kernel
theorem dX0_init_82 : decode cX0_init 82 = .ok (.aload_n 0, 1) := by decide +kernel
theorem dX0_init_83 : decode cX0_init 83 = .ok (.bipush 12, 2) := by decide +kernel
theorem dX0_init_85 : decode cX0_init 85 = .ok (.newarray .int, 2) := by decide +kernel
theorem dX0_init_87 : decode cX0_init 87 = .ok (.putfield 29, 3) := by decide +kernel
theorem dX0_init_90 : decode cX0_init 90 = .ok (.aload_n 0, 1) := by decide +kernel
theorem dX0_init_91 : decode cX0_init 91 = .ok (.bipush 12, 2) := by decide +kernel
theorem dX0_init_93 : decode cX0_init 93 = .ok (.newarray .int, 2) := by decide +kernel
theorem dX0_init_95 : decode cX0_init 95 = .ok (.putfield 32, 3) := by decide +kernel
theorem dX0_init_98 : decode cX0_init 98 = .ok (.aload_n 0, 1) := by decide +kernel
theorem dX0_init_99 : decode cX0_init 99 = .ok (.iconst 0, 1) := by decide +kernel
theorem dX0_init_100 : decode cX0_init 100 = .ok (.putfield 35, 3) := by decide +kernel
theorem dX0_init_103 : decode cX0_init 103 = .ok (.aload_n 0, 1) := by decide +kernel
theorem dX0_init_104 : decode cX0_init 104 = .ok (.iconst 4, 1) := by decide +kernel
theorem dX0_init_105 : decode cX0_init 105 = .ok (.newarray .int, 2) := by decide +kernel
theorem dX0_init_107 : decode cX0_init 107 = .ok (.putfield 38, 3) := by decide +kernel
theorem dX0_init_110 : decode cX0_init 110 = .ok (.aload_n 0, 1) := by decide +kernel
theorem dX0_init_111 : decode cX0_init 111 = .ok (.iconst 0, 1) := by decide +kernel
theorem dX0_init_112 : decode cX0_init 112 = .ok (.putfield 41, 3) := by decide +kernel
theorem dX0_init_115 : decode cX0_init 115 = .ok (.aload_n 0, 1) := by decide +kernel
theorem dX0_init_116 : decode cX0_init 116 = .ok (.iconst 5, 1) := by decide +kernel
theorem dX0_init_117 : decode cX0_init 117 = .ok (.newarray .int, 2) := by decide +kernel
theorem dX0_init_119 : decode cX0_init 119 = .ok (.putfield 44, 3) := by decide +kernel
theorem dX0_init_122 : decode cX0_init 122 = .ok (.aload_n 0, 1) := by decide +kernel
theorem dX0_init_123 : decode cX0_init 123 = .ok (.iconst 0, 1) := by decide +kernel
theorem dX0_init_124 : decode cX0_init 124 = .ok (.putfield 47, 3) := by decide +kernel
theorem dX0_init_127 : decode cX0_init 127 = .ok (.aload_n 0, 1) := by decide +kernel
theorem dX0_init_128 : decode cX0_init 128 = .ok (.iconst 0, 1) := by decide +kernel
theorem dX0_init_129 : decode cX0_init 129 = .ok (.putfield 50, 3) := by decide +kernel
theorem dX0_init_132 : decode cX0_init 132 = .ok (.aload_n 0, 1) := by decide +kernel
theorem dX0_init_133 : decode cX0_init 133 = .ok (.iconst 0, 1) := by decide +kernel
theorem dX0_init_134 : decode cX0_init 134 = .ok (.putfield 53, 3) := by decide +kernel
theorem dX0_init_137 : decode cX0_init 137 = .ok (.aload_n 0, 1) := by decide +kernel
theorem dX0_init_138 : decode cX0_init 138 = .ok (.iconst 0, 1) := by decide +kernel
theorem dX0_init_139 : decode cX0_init 139 = .ok (.putfield 56, 3) := by decide +kernel
theorem dX0_init_142 : decode cX0_init 142 = .ok (.aload_n 0, 1) := by decide +kernel
theorem dX0_init_143 : decode cX0_init 143 = .ok (.iconst 0, 1) := by decide +kernel
theorem dX0_init_144 : decode cX0_init 144 = .ok (.putfield 59, 3) := by decide +kernel
theorem dX0_init_147 : decode cX0_init 147 = .ok (.aload_n 0, 1) := by decide +kernel
theorem dX0_init_148 : decode cX0_init 148 = .ok (.iconst 0, 1) := by decide +kernel
theorem dX0_init_149 : decode cX0_init 149 = .ok (.putfield 62, 3) := by decide +kernel
theorem dX0_init_152 : decode cX0_init 152 = .ok (.aload_n 0, 1) := by decide +kernel
theorem dX0_init_153 : decode cX0_init 153 = .ok (.iconst 0, 1) := by decide +kernel
theorem dX0_init_154 : decode cX0_init 154 = .ok (.putfield 65, 3) := by decide +kernel
theorem dX0_init_157 : decode cX0_init 157 = .ok (.getstatic 68, 3) := by decide +kernel
theorem dX0_init_160 : decode cX0_init 160 = .ok (.aload_n 0, 1) := by decide +kernel
theorem dX0_init_161 : decode cX0_init 161 = .ok (.getfield 15, 3) := by decide +kernel
theorem dX0_init_164 : decode cX0_init 164 = .ok (.invokestatic 71, 3) := by decide +kernel
theorem dX0_init_167 : decode cX0_init 167 = .ok (.aload_n 0, 1) := by decide +kernel
theorem dX0_init_168 : decode cX0_init 168 = .ok (.getfield 29, 3) := by decide +kernel
theorem dX0_init_171 : decode cX0_init 171 = .ok (.bipush (-6), 2) := by decide +kernel
theorem dX0_init_173 : decode cX0_init 173 = .ok (.invokestatic 75, 3) := by decide +kernel
theorem dX0_init_176 : decode cX0_init 176 = .ok (.return_, 1) := by decide +kernel
theorem dX0_isOver_0 : decode cX0_isOver 0 = .ok (.aload_n 0, 1) := by decide +kernel
theorem dX0_isOver_1 : decode cX0_isOver 1 = .ok (.getfield 9, 3) := by decide +kernel
theorem dX0_isOver_4 : decode cX0_isOver 4 = .ok (.aload_n 1, 1) := by decide +kernel
theorem dX0_isOver_5 : decode cX0_isOver 5 = .ok (.getfield 81, 3) := by decide +kernel
theorem dX0_isOver_8 : decode cX0_isOver 8 = .ok (.iadd, 1) := by decide +kernel
theorem dX0_isOver_9 : decode cX0_isOver 9 = .ok (.aload_n 0, 1) := by decide +kernel
theorem dX0_isOver_10 : decode cX0_isOver 10 = .ok (.getfield 15, 3) := by decide +kernel
theorem dX0_isOver_13 : decode cX0_isOver 13 = .ok (.iconst 2, 1) := by decide +kernel
theorem dX0_isOver_14 : decode cX0_isOver 14 = .ok (.iaload, 1) := by decide +kernel
theorem dX0_isOver_15 : decode cX0_isOver 15 = .ok (.iadd, 1) := by decide +kernel
theorem dX0_isOver_16 : decode cX0_isOver 16 = .ok (.iload_n 2, 1) := by decide +kernel
theorem dX0_isOver_17 : decode cX0_isOver 17 = .ok (.if_icmp .lt 7, 3) := by decide +kernel
theorem dX0_isOver_20 : decode cX0_isOver 20 = .ok (.iconst 1, 1) := by decide +kernel
theorem dX0_isOver_21 : decode cX0_isOver 21 = .ok (.goto 4, 3) := by decide +kernel
theorem dX0_isOver_24 : decode cX0_isOver 24 = .ok (.iconst 0, 1) := by decide +kernel
theorem dX0_isOver_25 : decode cX0_isOver 25 = .ok (.ireturn, 1) := by decide +kernel
set_option maxRecDepth 20000 in
theorem ggX0_canUse_X1_hasCopy : GoodIn wsX0_canUse wsX1_hasCopy := goodIn_r _ [4, 5, 20, 21, 22, 23, 24, 25, 26, 27, 28, 29, 30, 31, 32] (by decide +kernel) (by decide +kernel)
set_option maxRecDepth 20000 in
theorem gX0_canUse_X1_hasCopy_n84 : GoodIn wsX0_canUse (wsX1_hasCopy) := ggX0_canUse_X1_hasCopy
set_option maxRecDepth 20000 in
theorem ggX0_canUse_X0_isOver : GoodIn wsX0_canUse wsX0_isOver := goodIn_r _ [10, 11, 12, 33, 34, 35, 36, 37, 38, 39, 40, 41, 42, 43, 44, 45, 46, 47, 48, 49, 20, 21, 22, 23, 24, 25, 26, 27, 28, 29, 30, 31, 32] (by decide +kernel) (by decide +kernel)
set_option maxRecDepth 20000 in
theorem gX0_canUse_X0_isOver : GoodIn wsX0_canUse (wsV RX0 91 RX0 yX0_isOver wsX0_isOver) := goodIn_app (goodIn_of _ (by decide +kernel)) ggX0_canUse_X0_isOver
set_option maxRecDepth 20000 in
theorem ggX0_canUse_X1_volumeTermFor : GoodIn wsX0_canUse wsX1_volumeTermFor := goodIn_r _ [15, 16, 17, 18, 19, 20, 21, 22, 23, 24, 25, 26, 27, 28, 29, 30, 31, 32] (by decide +kernel) (by decide +kernel)
set_option maxRecDepth 20000 in
theorem gX0_canUse_X1_volumeTermFor_n95 : GoodIn wsX0_canUse (wsX1_volumeTermFor) := ggX0_canUse_X1_volumeTermFor
theorem dX0_canUse_0 : decode cX0_canUse 0 = .ok (.aload_n 1, 1) := by decide +kernel
theorem dX0_canUse_1 : decode cX0_canUse 1 = .ok (.iload_n 2, 1) := by decide +kernel
theorem dX0_canUse_2 : decode cX0_canUse 2 = .ok (.invokevirtual 84, 3) := by decide +kernel
theorem dX0_canUse_5 : decode cX0_canUse 5 = .ok (.ifCond .eq 34, 3) := by decide +kernel
theorem dX0_canUse_8 : decode cX0_canUse 8 = .ok (.aload_n 0, 1) := by decide +kernel
theorem dX0_canUse_9 : decode cX0_canUse 9 = .ok (.aload_n 1, 1) := by decide +kernel
theorem dX0_canUse_10 : decode cX0_canUse 10 = .ok (.aload_n 1, 1) := by decide +kernel
theorem dX0_canUse_11 : decode cX0_canUse 11 = .ok (.getfield 88, 3) := by decide +kernel
theorem dX0_canUse_14 : decode cX0_canUse 14 = .ok (.iload_n 2, 1) := by decide +kernel
theorem dX0_canUse_15 : decode cX0_canUse 15 = .ok (.iaload, 1) := by decide +kernel
theorem dX0_canUse_16 : decode cX0_canUse 16 = .ok (.invokevirtual 91, 3) := by decide +kernel
theorem dX0_canUse_19 : decode cX0_canUse 19 = .ok (.ifCond .ne 20, 3) := by decide +kernel
theorem dX0_canUse_22 : decode cX0_canUse 22 = .ok (.aload_n 0, 1) := by decide +kernel
theorem dX0_canUse_23 : decode cX0_canUse 23 = .ok (.aload_n 1, 1) := by decide +kernel
theorem dX0_canUse_24 : decode cX0_canUse 24 = .ok (.aload_n 1, 1) := by decide +kernel
theorem dX0_canUse_25 : decode cX0_canUse 25 = .ok (.iload_n 2, 1) := by decide +kernel
theorem dX0_canUse_26 : decode cX0_canUse 26 = .ok (.invokevirtual 95, 3) := by decide +kernel
theorem dX0_canUse_29 : decode cX0_canUse 29 = .ok (.invokevirtual 91, 3) := by decide +kernel
theorem dX0_canUse_32 : decode cX0_canUse 32 = .ok (.ifCond .ne 7, 3) := by decide +kernel
theorem dX0_canUse_35 : decode cX0_canUse 35 = .ok (.iconst 1, 1) := by decide +kernel
theorem dX0_canUse_36 : decode cX0_canUse 36 = .ok (.goto 4, 3) := by decide +kernel
theorem dX0_canUse_39 : decode cX0_canUse 39 = .ok (.iconst 0, 1) := by decide +kernel
theorem dX0_canUse_40 : decode cX0_canUse 40 = .ok (.ireturn, 1) := by decide +kernel
theorem dX0_isHolder_0 : decode cX0_isHolder 0 = .ok (.aload_n 1, 1) := by decide +kernel
theorem dX0_isHolder_1 : decode cX0_isHolder 1 = .ok (.getfield 99, 3) := by decide +kernel
theorem dX0_isHolder_4 : decode cX0_isHolder 4 = .ok (.iload_n 2, 1) := by decide +kernel
theorem dX0_isHolder_5 : decode cX0_isHolder 5 = .ok (.iaload, 1) := by decide +kernel
theorem dX0_isHolder_6 : decode cX0_isHolder 6 = .ok (.aload_n 0, 1) := by decide +kernel
theorem dX0_isHolder_7 : decode cX0_isHolder 7 = .ok (.getfield 9, 3) := by decide +kernel
theorem dX0_isHolder_10 : decode cX0_isHolder 10 = .ok (.if_icmp .le 7, 3) := by decide +kernel
theorem dX0_isHolder_13 : decode cX0_isHolder 13 = .ok (.iconst 1, 1) := by decide +kernel
theorem dX0_isHolder_14 : decode cX0_isHolder 14 = .ok (.goto 4, 3) := by decide +kernel
theorem dX0_isHolder_17 : decode cX0_isHolder 17 = .ok (.iconst 0, 1) := by decide +kernel
theorem dX0_isHolder_18 : decode cX0_isHolder 18 = .ok (.ireturn, 1) := by decide +kernel
theorem dX0_isWaiting_0 : decode cX0_isWaiting 0 = .ok (.aload_n 0, 1) := by decide +kernel
theorem dX0_isWaiting_1 : decode cX0_isWaiting 1 = .ok (.getfield 29, 3) := by decide +kernel
theorem dX0_isWaiting_4 : decode cX0_isWaiting 4 = .ok (.iload_n 1, 1) := by decide +kernel
theorem dX0_isWaiting_5 : decode cX0_isWaiting 5 = .ok (.iaload, 1) := by decide +kernel
theorem dX0_isWaiting_6 : decode cX0_isWaiting 6 = .ok (.bipush (-6), 2) := by decide +kernel
theorem dX0_isWaiting_8 : decode cX0_isWaiting 8 = .ok (.if_icmp .eq 7, 3) := by decide +kernel
theorem dX0_isWaiting_11 : decode cX0_isWaiting 11 = .ok (.iconst 1, 1) := by decide +kernel
theorem dX0_isWaiting_12 : decode cX0_isWaiting 12 = .ok (.goto 4, 3) := by decide +kernel
theorem dX0_isWaiting_15 : decode cX0_isWaiting 15 = .ok (.iconst 0, 1) := by decide +kernel
theorem dX0_isWaiting_16 : decode cX0_isWaiting 16 = .ok (.ireturn, 1) := by decide +kernel
set_option maxRecDepth 20000 in
theorem ggX0_countSkewedBeyondDoubt_X2_bit : GoodIn wsX0_countSkewedBeyondDoubt wsX2_bit := goodIn_r _ [9] (by decide +kernel) (by decide +kernel)
set_option maxRecDepth 20000 in
theorem gX0_countSkewedBeyondDoubt_X2_bit_n107 : GoodIn wsX0_countSkewedBeyondDoubt (wsX2_bit) := ggX0_countSkewedBeyondDoubt_X2_bit
theorem dX0_countSkewedBeyondDoubt_0 : decode cX0_countSkewedBeyondDoubt 0 = .ok (.iconst 0, 1) := by decide +kernel
theorem dX0_countSkewedBeyondDoubt_1 : decode cX0_countSkewedBeyondDoubt 1 = .ok (.istore_n 1, 1) := by decide +kernel
theorem dX0_countSkewedBeyondDoubt_2 : decode cX0_countSkewedBeyondDoubt 2 = .ok (.iconst 0, 1) := by decide +kernel
theorem dX0_countSkewedBeyondDoubt_3 : decode cX0_countSkewedBeyondDoubt 3 = .ok (.istore_n 2, 1) := by decide +kernel
theorem dX0_countSkewedBeyondDoubt_4 : decode cX0_countSkewedBeyondDoubt 4 = .ok (.iload_n 2, 1) := by decide +kernel
theorem dX0_countSkewedBeyondDoubt_5 : decode cX0_countSkewedBeyondDoubt 5 = .ok (.iconst 5, 1) := by decide +kernel
theorem dX0_countSkewedBeyondDoubt_6 : decode cX0_countSkewedBeyondDoubt 6 = .ok (.if_icmp .ge 41, 3) := by decide +kernel
theorem dX0_countSkewedBeyondDoubt_9 : decode cX0_countSkewedBeyondDoubt 9 = .ok (.iload_n 1, 1) := by decide +kernel
theorem dX0_countSkewedBeyondDoubt_10 : decode cX0_countSkewedBeyondDoubt 10 = .ok (.aload_n 0, 1) := by decide +kernel
theorem dX0_countSkewedBeyondDoubt_11 : decode cX0_countSkewedBeyondDoubt 11 = .ok (.getfield 22, 3) := by decide +kernel
theorem dX0_countSkewedBeyondDoubt_14 : decode cX0_countSkewedBeyondDoubt 14 = .ok (.iload_n 2, 1) := by decide +kernel
theorem dX0_countSkewedBeyondDoubt_15 : decode cX0_countSkewedBeyondDoubt 15 = .ok (.aaload, 1) := by decide +kernel
theorem dX0_countSkewedBeyondDoubt_16 : decode cX0_countSkewedBeyondDoubt 16 = .ok (.getfield 81, 3) := by decide +kernel
theorem dX0_countSkewedBeyondDoubt_19 : decode cX0_countSkewedBeyondDoubt 19 = .ok (.invokestatic 102, 3) := by decide +kernel
theorem dX0_countSkewedBeyondDoubt_22 : decode cX0_countSkewedBeyondDoubt 22 = .ok (.aload_n 0, 1) := by decide +kernel
theorem dX0_countSkewedBeyondDoubt_23 : decode cX0_countSkewedBeyondDoubt 23 = .ok (.getfield 15, 3) := by decide +kernel
theorem dX0_countSkewedBeyondDoubt_26 : decode cX0_countSkewedBeyondDoubt 26 = .ok (.iconst 2, 1) := by decide +kernel
theorem dX0_countSkewedBeyondDoubt_27 : decode cX0_countSkewedBeyondDoubt 27 = .ok (.iaload, 1) := by decide +kernel
theorem dX0_countSkewedBeyondDoubt_28 : decode cX0_countSkewedBeyondDoubt 28 = .ok (.if_icmp .le 7, 3) := by decide +kernel
theorem dX0_countSkewedBeyondDoubt_31 : decode cX0_countSkewedBeyondDoubt 31 = .ok (.iconst 1, 1) := by decide +kernel
theorem dX0_countSkewedBeyondDoubt_32 : decode cX0_countSkewedBeyondDoubt 32 = .ok (.goto 4, 3) := by decide +kernel
theorem dX0_countSkewedBeyondDoubt_35 : decode cX0_countSkewedBeyondDoubt 35 = .ok (.iconst 0, 1) := by decide +kernel
theorem dX0_countSkewedBeyondDoubt_36 : decode cX0_countSkewedBeyondDoubt 36 = .ok (.invokestatic 107, 3) := by decide +kernel
theorem dX0_countSkewedBeyondDoubt_39 : decode cX0_countSkewedBeyondDoubt 39 = .ok (.iadd, 1) := by decide +kernel
theorem dX0_countSkewedBeyondDoubt_40 : decode cX0_countSkewedBeyondDoubt 40 = .ok (.istore_n 1, 1) := by decide +kernel
theorem dX0_countSkewedBeyondDoubt_41 : decode cX0_countSkewedBeyondDoubt 41 = .ok (.iinc 2 1, 3) := by decide +kernel
theorem dX0_countSkewedBeyondDoubt_44 : decode cX0_countSkewedBeyondDoubt 44 = .ok (.goto (-40), 3) := by decide +kernel
theorem dX0_countSkewedBeyondDoubt_47 : decode cX0_countSkewedBeyondDoubt 47 = .ok (.iload_n 1, 1) := by decide +kernel
theorem dX0_countSkewedBeyondDoubt_48 : decode cX0_countSkewedBeyondDoubt 48 = .ok (.ireturn, 1) := by decide +kernel
set_option maxRecDepth 20000 in
theorem ggX0_readBy_X0_canUse : GoodIn wsX0_readBy wsX0_canUse := goodIn_r _ [5, 6, 7, 8, 9, 10, 11, 12, 13, 4, 14, 15, 16, 17, 18, 19, 20, 21, 22, 23, 71, 72, 73, 74, 75, 76, 77, 78, 79, 80, 81, 82, 83, 84, 85, 86, 87, 88, 89, 90, 91, 92, 93, 94, 95, 96, 97, 98, 99, 100] (by decide +kernel) (by decide +kernel)
set_option maxRecDepth 20000 in
theorem gX0_readBy_X0_canUse : GoodIn wsX0_readBy (wsV RX0 111 RX0 yX0_canUse wsX0_canUse) := goodIn_app (goodIn_of _ (by decide +kernel)) ggX0_readBy_X0_canUse
set_option maxRecDepth 20000 in
theorem ggX0_readBy_X0_useCopy : GoodIn wsX0_readBy wsX0_useCopy := goodIn_r _ [27, 28, 29, 71, 72, 73, 74, 75, 76, 77, 78, 79, 80, 81, 82, 83, 84, 85, 86, 87, 88, 89, 90, 91, 92, 93, 94, 95, 96, 97, 98, 99, 100] (by decide +kernel) (by decide +kernel)
set_option maxRecDepth 20000 in
theorem gX0_readBy_X0_useCopy : GoodIn wsX0_readBy (wsV RX0 114 RX0 yX0_useCopy wsX0_useCopy) := goodIn_app (goodIn_of _ (by decide +kernel)) ggX0_readBy_X0_useCopy
set_option maxRecDepth 20000 in
theorem ggX0_readBy_X0_noteCauses : GoodIn wsX0_readBy wsX0_noteCauses := goodIn_r _ [33, 34, 35, 36, 37, 4, 38, 39, 17, 7, 18, 19, 20, 21, 22, 23, 11, 12, 13, 14, 15, 16, 6, 8, 9, 10, 84, 85, 86, 87, 88, 89, 90, 91, 92, 93, 94, 95, 96, 97, 98, 99, 100, 71, 72, 73, 74, 75, 76, 77, 78, 79, 80, 81, 82, 83] (by decide +kernel) (by decide +kernel)
set_option maxRecDepth 20000 in
theorem gX0_readBy_X0_noteCauses : GoodIn wsX0_readBy (wsV RX0 118 RX0 yX0_noteCauses wsX0_noteCauses) := goodIn_app (goodIn_of _ (by decide +kernel)) ggX0_readBy_X0_noteCauses
set_option maxRecDepth 20000 in
theorem ggX0_readBy_X0_askHouse : GoodIn wsX0_readBy wsX0_askHouse := goodIn_r _ [43, 15, 28, 16, 17, 7, 18, 19, 20, 21, 22, 23, 11, 12, 13, 4, 14, 44, 45, 46, 47, 48, 49, 50, 51, 52, 53, 54, 6, 8, 9, 10, 55, 56, 57, 58, 59, 60, 61, 62, 63, 64, 65, 66, 67, 68, 69, 70, 71, 72, 73, 74, 75, 76, 77, 78, 79, 80, 81, 82, 83, 84, 85, 86, 87, 88, 89, 90, 91, 92, 93, 94, 95, 96, 97, 98, 99, 100] (by decide +kernel) (by decide +kernel)
set_option maxRecDepth 20000 in
theorem gX0_readBy_X0_askHouse : GoodIn wsX0_readBy (wsV RX0 129 RX0 yX0_askHouse wsX0_askHouse) := goodIn_app (goodIn_of _ (by decide +kernel)) ggX0_readBy_X0_askHouse
theorem dX0_readBy_0 : decode cX0_readBy 0 = .ok (.aload_n 0, 1) := by decide +kernel
theorem dX0_readBy_1 : decode cX0_readBy 1 = .ok (.aload_n 1, 1) := by decide +kernel
theorem dX0_readBy_2 : decode cX0_readBy 2 = .ok (.iload_n 2, 1) := by decide +kernel
theorem dX0_readBy_3 : decode cX0_readBy 3 = .ok (.invokevirtual 111, 3) := by decide +kernel
theorem dX0_readBy_6 : decode cX0_readBy 6 = .ok (.ifCond .eq 10, 3) := by decide +kernel
theorem dX0_readBy_9 : decode cX0_readBy 9 = .ok (.aload_n 0, 1) := by decide +kernel
theorem dX0_readBy_10 : decode cX0_readBy 10 = .ok (.aload_n 1, 1) := by decide +kernel
theorem dX0_readBy_11 : decode cX0_readBy 11 = .ok (.iload_n 2, 1) := by decide +kernel
theorem dX0_readBy_12 : decode cX0_readBy 12 = .ok (.invokevirtual 114, 3) := by decide +kernel
theorem dX0_readBy_15 : decode cX0_readBy 15 = .ok (.ireturn, 1) := by decide +kernel
theorem dX0_readBy_16 : decode cX0_readBy 16 = .ok (.aload_n 0, 1) := by decide +kernel
theorem dX0_readBy_17 : decode cX0_readBy 17 = .ok (.aload_n 1, 1) := by decide +kernel
theorem dX0_readBy_18 : decode cX0_readBy 18 = .ok (.iload_n 2, 1) := by decide +kernel
theorem dX0_readBy_19 : decode cX0_readBy 19 = .ok (.invokevirtual 118, 3) := by decide +kernel
theorem dX0_readBy_22 : decode cX0_readBy 22 = .ok (.aload_n 1, 1) := by decide +kernel
theorem dX0_readBy_23 : decode cX0_readBy 23 = .ok (.getfield 122, 3) := by decide +kernel
theorem dX0_readBy_26 : decode cX0_readBy 26 = .ok (.ifCond .ne 15, 3) := by decide +kernel
theorem dX0_readBy_29 : decode cX0_readBy 29 = .ok (.aload_n 1, 1) := by decide +kernel
theorem dX0_readBy_30 : decode cX0_readBy 30 = .ok (.dup, 1) := by decide +kernel
theorem dX0_readBy_31 : decode cX0_readBy 31 = .ok (.getfield 126, 3) := by decide +kernel
theorem dX0_readBy_34 : decode cX0_readBy 34 = .ok (.iconst 1, 1) := by decide +kernel
theorem dX0_readBy_35 : decode cX0_readBy 35 = .ok (.iadd, 1) := by decide +kernel
theorem dX0_readBy_36 : decode cX0_readBy 36 = .ok (.putfield 126, 3) := by decide +kernel
theorem dX0_readBy_39 : decode cX0_readBy 39 = .ok (.iconst 4, 1) := by decide +kernel
theorem dX0_readBy_40 : decode cX0_readBy 40 = .ok (.ireturn, 1) := by decide +kernel
theorem dX0_readBy_41 : decode cX0_readBy 41 = .ok (.aload_n 0, 1) := by decide +kernel
theorem dX0_readBy_42 : decode cX0_readBy 42 = .ok (.aload_n 1, 1) := by decide +kernel
theorem dX0_readBy_43 : decode cX0_readBy 43 = .ok (.iload_n 2, 1) := by decide +kernel
theorem dX0_readBy_44 : decode cX0_readBy 44 = .ok (.invokevirtual 129, 3) := by decide +kernel
theorem dX0_readBy_47 : decode cX0_readBy 47 = .ok (.ireturn, 1) := by decide +kernel
theorem dX0_useCopy_0 : decode cX0_useCopy 0 = .ok (.aload_n 1, 1) := by decide +kernel
theorem dX0_useCopy_1 : decode cX0_useCopy 1 = .ok (.dup, 1) := by decide +kernel
theorem dX0_useCopy_2 : decode cX0_useCopy 2 = .ok (.getfield 132, 3) := by decide +kernel
theorem dX0_useCopy_5 : decode cX0_useCopy 5 = .ok (.iconst 1, 1) := by decide +kernel
theorem dX0_useCopy_6 : decode cX0_useCopy 6 = .ok (.iadd, 1) := by decide +kernel
theorem dX0_useCopy_7 : decode cX0_useCopy 7 = .ok (.putfield 132, 3) := by decide +kernel
theorem dX0_useCopy_10 : decode cX0_useCopy 10 = .ok (.aload_n 1, 1) := by decide +kernel
theorem dX0_useCopy_11 : decode cX0_useCopy 11 = .ok (.aload_n 1, 1) := by decide +kernel
theorem dX0_useCopy_12 : decode cX0_useCopy 12 = .ok (.getfield 135, 3) := by decide +kernel
theorem dX0_useCopy_15 : decode cX0_useCopy 15 = .ok (.iload_n 2, 1) := by decide +kernel
theorem dX0_useCopy_16 : decode cX0_useCopy 16 = .ok (.iaload, 1) := by decide +kernel
theorem dX0_useCopy_17 : decode cX0_useCopy 17 = .ok (.putfield 138, 3) := by decide +kernel
theorem dX0_useCopy_20 : decode cX0_useCopy 20 = .ok (.aload_n 1, 1) := by decide +kernel
theorem dX0_useCopy_21 : decode cX0_useCopy 21 = .ok (.getfield 135, 3) := by decide +kernel
theorem dX0_useCopy_24 : decode cX0_useCopy 24 = .ok (.iload_n 2, 1) := by decide +kernel
theorem dX0_useCopy_25 : decode cX0_useCopy 25 = .ok (.iaload, 1) := by decide +kernel
theorem dX0_useCopy_26 : decode cX0_useCopy 26 = .ok (.aload_n 0, 1) := by decide +kernel
theorem dX0_useCopy_27 : decode cX0_useCopy 27 = .ok (.getfield 26, 3) := by decide +kernel
theorem dX0_useCopy_30 : decode cX0_useCopy 30 = .ok (.iload_n 2, 1) := by decide +kernel
theorem dX0_useCopy_31 : decode cX0_useCopy 31 = .ok (.iaload, 1) := by decide +kernel
theorem dX0_useCopy_32 : decode cX0_useCopy 32 = .ok (.if_icmp .ne 5, 3) := by decide +kernel
theorem dX0_useCopy_35 : decode cX0_useCopy 35 = .ok (.iconst 0, 1) := by decide +kernel
theorem dX0_useCopy_36 : decode cX0_useCopy 36 = .ok (.ireturn, 1) := by decide +kernel
theorem dX0_useCopy_37 : decode cX0_useCopy 37 = .ok (.aload_n 0, 1) := by decide +kernel
theorem dX0_useCopy_38 : decode cX0_useCopy 38 = .ok (.dup, 1) := by decide +kernel
theorem dX0_useCopy_39 : decode cX0_useCopy 39 = .ok (.getfield 50, 3) := by decide +kernel
theorem dX0_useCopy_42 : decode cX0_useCopy 42 = .ok (.iconst 1, 1) := by decide +kernel
theorem dX0_useCopy_43 : decode cX0_useCopy 43 = .ok (.iadd, 1) := by decide +kernel
theorem dX0_useCopy_44 : decode cX0_useCopy 44 = .ok (.putfield 50, 3) := by decide +kernel
theorem dX0_useCopy_47 : decode cX0_useCopy 47 = .ok (.iconst 1, 1) := by decide +kernel
theorem dX0_useCopy_48 : decode cX0_useCopy 48 = .ok (.ireturn, 1) := by decide +kernel
set_option maxRecDepth 20000 in
theorem ggX0_noteCauses_X0_addCauseIf : GoodIn wsX0_noteCauses wsX0_addCauseIf := goodIn_r _ [6, 1, 7, 26, 27, 28, 29, 30, 31, 32, 33, 34, 35, 36, 37, 38, 39, 40, 41, 42] (by decide +kernel) (by decide +kernel)
set_option maxRecDepth 20000 in
theorem gX0_noteCauses_X0_addCauseIf : GoodIn wsX0_noteCauses (wsV RX0 141 RX0 yX0_addCauseIf wsX0_addCauseIf) := goodIn_app (goodIn_of _ (by decide +kernel)) ggX0_noteCauses_X0_addCauseIf
set_option maxRecDepth 20000 in
theorem ggX0_noteCauses_X1_volumeTermFor : GoodIn wsX0_noteCauses wsX1_volumeTermFor := goodIn_r _ [11, 12, 13, 14, 15, 43, 44, 45, 46, 47, 48, 49, 50, 51, 52, 53, 54, 55] (by decide +kernel) (by decide +kernel)
set_option maxRecDepth 20000 in
theorem gX0_noteCauses_X1_volumeTermFor_n95 : GoodIn wsX0_noteCauses (wsX1_volumeTermFor) := ggX0_noteCauses_X1_volumeTermFor
set_option maxRecDepth 20000 in
theorem ggX0_noteCauses_X0_isOver : GoodIn wsX0_noteCauses wsX0_isOver := goodIn_r _ [19, 20, 21, 26, 27, 28, 29, 30, 31, 32, 33, 34, 35, 36, 37, 38, 39, 40, 41, 42, 43, 44, 45, 46, 47, 48, 49, 50, 51, 52, 53, 54, 55] (by decide +kernel) (by decide +kernel)
set_option maxRecDepth 20000 in
theorem gX0_noteCauses_X0_isOver : GoodIn wsX0_noteCauses (wsV RX0 91 RX0 yX0_isOver wsX0_isOver) := goodIn_app (goodIn_of _ (by decide +kernel)) ggX0_noteCauses_X0_isOver
set_option maxRecDepth 20000 in
theorem ggX0_noteCauses_X1_hasCopy : GoodIn wsX0_noteCauses wsX1_hasCopy := goodIn_r _ [24, 25, 43, 44, 45, 46, 47, 48, 49, 50, 51, 52, 53, 54, 55] (by decide +kernel) (by decide +kernel)
set_option maxRecDepth 20000 in
theorem gX0_noteCauses_X1_hasCopy_n84 : GoodIn wsX0_noteCauses (wsX1_hasCopy) := ggX0_noteCauses_X1_hasCopy
theorem dX0_noteCauses_0 : decode cX0_noteCauses 0 = .ok (.aload_n 0, 1) := by decide +kernel
theorem dX0_noteCauses_1 : decode cX0_noteCauses 1 = .ok (.iconst 0, 1) := by decide +kernel
theorem dX0_noteCauses_2 : decode cX0_noteCauses 2 = .ok (.putfield 41, 3) := by decide +kernel
theorem dX0_noteCauses_5 : decode cX0_noteCauses 5 = .ok (.aload_n 0, 1) := by decide +kernel
theorem dX0_noteCauses_6 : decode cX0_noteCauses 6 = .ok (.aload_n 1, 1) := by decide +kernel
theorem dX0_noteCauses_7 : decode cX0_noteCauses 7 = .ok (.getfield 122, 3) := by decide +kernel
theorem dX0_noteCauses_10 : decode cX0_noteCauses 10 = .ok (.ifCond .ne 7, 3) := by decide +kernel
theorem dX0_noteCauses_13 : decode cX0_noteCauses 13 = .ok (.iconst 1, 1) := by decide +kernel
theorem dX0_noteCauses_14 : decode cX0_noteCauses 14 = .ok (.goto 4, 3) := by decide +kernel
theorem dX0_noteCauses_17 : decode cX0_noteCauses 17 = .ok (.iconst 0, 1) := by decide +kernel
theorem dX0_noteCauses_18 : decode cX0_noteCauses 18 = .ok (.iconst 1, 1) := by decide +kernel
theorem dX0_noteCauses_19 : decode cX0_noteCauses 19 = .ok (.invokevirtual 141, 3) := by decide +kernel
theorem dX0_noteCauses_22 : decode cX0_noteCauses 22 = .ok (.aload_n 0, 1) := by decide +kernel
theorem dX0_noteCauses_23 : decode cX0_noteCauses 23 = .ok (.aload_n 0, 1) := by decide +kernel
theorem dX0_noteCauses_24 : decode cX0_noteCauses 24 = .ok (.aload_n 1, 1) := by decide +kernel
theorem dX0_noteCauses_25 : decode cX0_noteCauses 25 = .ok (.aload_n 1, 1) := by decide +kernel
theorem dX0_noteCauses_26 : decode cX0_noteCauses 26 = .ok (.iload_n 2, 1) := by decide +kernel
theorem dX0_noteCauses_27 : decode cX0_noteCauses 27 = .ok (.invokevirtual 95, 3) := by decide +kernel
theorem dX0_noteCauses_30 : decode cX0_noteCauses 30 = .ok (.invokevirtual 91, 3) := by decide +kernel
theorem dX0_noteCauses_33 : decode cX0_noteCauses 33 = .ok (.iconst 2, 1) := by decide +kernel
theorem dX0_noteCauses_34 : decode cX0_noteCauses 34 = .ok (.invokevirtual 141, 3) := by decide +kernel
theorem dX0_noteCauses_37 : decode cX0_noteCauses 37 = .ok (.aload_n 0, 1) := by decide +kernel
theorem dX0_noteCauses_38 : decode cX0_noteCauses 38 = .ok (.aload_n 0, 1) := by decide +kernel
theorem dX0_noteCauses_39 : decode cX0_noteCauses 39 = .ok (.aload_n 1, 1) := by decide +kernel
theorem dX0_noteCauses_40 : decode cX0_noteCauses 40 = .ok (.aload_n 1, 1) := by decide +kernel
theorem dX0_noteCauses_41 : decode cX0_noteCauses 41 = .ok (.getfield 88, 3) := by decide +kernel
theorem dX0_noteCauses_44 : decode cX0_noteCauses 44 = .ok (.iload_n 2, 1) := by decide +kernel
theorem dX0_noteCauses_45 : decode cX0_noteCauses 45 = .ok (.iaload, 1) := by decide +kernel
theorem dX0_noteCauses_46 : decode cX0_noteCauses 46 = .ok (.invokevirtual 91, 3) := by decide +kernel
theorem dX0_noteCauses_49 : decode cX0_noteCauses 49 = .ok (.iconst 3, 1) := by decide +kernel
theorem dX0_noteCauses_50 : decode cX0_noteCauses 50 = .ok (.invokevirtual 141, 3) := by decide +kernel
theorem dX0_noteCauses_53 : decode cX0_noteCauses 53 = .ok (.aload_n 0, 1) := by decide +kernel
theorem dX0_noteCauses_54 : decode cX0_noteCauses 54 = .ok (.aload_n 1, 1) := by decide +kernel
theorem dX0_noteCauses_55 : decode cX0_noteCauses 55 = .ok (.iload_n 2, 1) := by decide +kernel
theorem dX0_noteCauses_56 : decode cX0_noteCauses 56 = .ok (.invokevirtual 84, 3) := by decide +kernel
theorem dX0_noteCauses_59 : decode cX0_noteCauses 59 = .ok (.ifCond .ne 7, 3) := by decide +kernel
theorem dX0_noteCauses_62 : decode cX0_noteCauses 62 = .ok (.iconst 1, 1) := by decide +kernel
theorem dX0_noteCauses_63 : decode cX0_noteCauses 63 = .ok (.goto 4, 3) := by decide +kernel
theorem dX0_noteCauses_66 : decode cX0_noteCauses 66 = .ok (.iconst 0, 1) := by decide +kernel
theorem dX0_noteCauses_67 : decode cX0_noteCauses 67 = .ok (.iconst 4, 1) := by decide +kernel
theorem dX0_noteCauses_68 : decode cX0_noteCauses 68 = .ok (.invokevirtual 141, 3) := by decide +kernel
theorem dX0_noteCauses_71 : decode cX0_noteCauses 71 = .ok (.return_, 1) := by decide +kernel
theorem dX0_addCauseIf_0 : decode cX0_addCauseIf 0 = .ok (.iload_n 1, 1) := by decide +kernel
theorem dX0_addCauseIf_1 : decode cX0_addCauseIf 1 = .ok (.ifCond .eq 31, 3) := by decide +kernel
theorem dX0_addCauseIf_4 : decode cX0_addCauseIf 4 = .ok (.aload_n 0, 1) := by decide +kernel
theorem dX0_addCauseIf_5 : decode cX0_addCauseIf 5 = .ok (.getfield 41, 3) := by decide +kernel
theorem dX0_addCauseIf_8 : decode cX0_addCauseIf 8 = .ok (.iconst 4, 1) := by decide +kernel
theorem dX0_addCauseIf_9 : decode cX0_addCauseIf 9 = .ok (.if_icmp .ge 23, 3) := by decide +kernel
theorem dX0_addCauseIf_12 : decode cX0_addCauseIf 12 = .ok (.aload_n 0, 1) := by decide +kernel
theorem dX0_addCauseIf_13 : decode cX0_addCauseIf 13 = .ok (.getfield 38, 3) := by decide +kernel
theorem dX0_addCauseIf_16 : decode cX0_addCauseIf 16 = .ok (.aload_n 0, 1) := by decide +kernel
theorem dX0_addCauseIf_17 : decode cX0_addCauseIf 17 = .ok (.getfield 41, 3) := by decide +kernel
theorem dX0_addCauseIf_20 : decode cX0_addCauseIf 20 = .ok (.iload_n 2, 1) := by decide +kernel
theorem dX0_addCauseIf_21 : decode cX0_addCauseIf 21 = .ok (.iastore, 1) := by decide +kernel
theorem dX0_addCauseIf_22 : decode cX0_addCauseIf 22 = .ok (.aload_n 0, 1) := by decide +kernel
theorem dX0_addCauseIf_23 : decode cX0_addCauseIf 23 = .ok (.dup, 1) := by decide +kernel
theorem dX0_addCauseIf_24 : decode cX0_addCauseIf 24 = .ok (.getfield 41, 3) := by decide +kernel
theorem dX0_addCauseIf_27 : decode cX0_addCauseIf 27 = .ok (.iconst 1, 1) := by decide +kernel
theorem dX0_addCauseIf_28 : decode cX0_addCauseIf 28 = .ok (.iadd, 1) := by decide +kernel
theorem dX0_addCauseIf_29 : decode cX0_addCauseIf 29 = .ok (.putfield 41, 3) := by decide +kernel
theorem dX0_addCauseIf_32 : decode cX0_addCauseIf 32 = .ok (.return_, 1) := by decide +kernel
set_option maxRecDepth 20000 in
theorem ggX0_askHouse_X1_volumeTermFor : GoodIn wsX0_askHouse wsX1_volumeTermFor := goodIn_r _ [7, 8, 9, 10, 11, 48, 49, 50, 51, 52, 53, 54, 55, 56, 57, 58, 59, 60] (by decide +kernel) (by decide +kernel)
set_option maxRecDepth 20000 in
theorem gX0_askHouse_X1_volumeTermFor_n95 : GoodIn wsX0_askHouse (wsX1_volumeTermFor) := ggX0_askHouse_X1_volumeTermFor
set_option maxRecDepth 20000 in
theorem ggX0_askHouse_X0_isOver : GoodIn wsX0_askHouse wsX0_isOver := goodIn_r _ [16, 1, 3, 61, 62, 63, 64, 65, 66, 67, 68, 69, 70, 71, 72, 73, 74, 75, 76, 77, 48, 49, 50, 51, 52, 53, 54, 55, 56, 57, 58, 59, 60] (by decide +kernel) (by decide +kernel)
set_option maxRecDepth 20000 in
theorem gX0_askHouse_X0_isOver : GoodIn wsX0_askHouse (wsV RX0 91 RX0 yX0_isOver wsX0_isOver) := goodIn_app (goodIn_of _ (by decide +kernel)) ggX0_askHouse_X0_isOver
set_option maxRecDepth 20000 in
theorem ggX0_askHouse_X2_volumeOf : GoodIn wsX0_askHouse wsX2_volumeOf := goodIn_r _ [11] (by decide +kernel) (by decide +kernel)
set_option maxRecDepth 20000 in
theorem gX0_askHouse_X2_volumeOf_n148 : GoodIn wsX0_askHouse (wsX2_volumeOf) := ggX0_askHouse_X2_volumeOf
set_option maxRecDepth 20000 in
theorem ggX0_askHouse_X0_renew : GoodIn wsX0_askHouse wsX0_renew := goodIn_r _ [20, 1, 3, 21, 22, 23, 24, 15, 25, 26, 10, 27, 28, 5, 29, 30, 31, 32, 33, 34, 35, 36, 37, 38, 39, 40, 41, 42, 48, 49, 50, 51, 52, 53, 54, 55, 56, 57, 58, 59, 60, 61, 62, 63, 64, 65, 66, 67, 68, 69, 70, 71, 72, 73, 74, 75, 76, 77] (by decide +kernel) (by decide +kernel)
set_option maxRecDepth 20000 in
theorem gX0_askHouse_X0_renew : GoodIn wsX0_askHouse (wsV RX0 151 RX0 yX0_renew wsX0_renew) := goodIn_app (goodIn_of _ (by decide +kernel)) ggX0_askHouse_X0_renew
set_option maxRecDepth 20000 in
theorem ggX0_askHouse_X0_isWaiting : GoodIn wsX0_askHouse wsX0_isWaiting := goodIn_r _ [46, 47, 61, 62, 63, 64, 65, 66, 67, 68, 69, 70, 71, 72, 73, 74, 75, 76, 77] (by decide +kernel) (by decide +kernel)
set_option maxRecDepth 20000 in
theorem gX0_askHouse_X0_isWaiting : GoodIn wsX0_askHouse (wsV RX0 154 RX0 yX0_isWaiting wsX0_isWaiting) := goodIn_app (goodIn_of _ (by decide +kernel)) ggX0_askHouse_X0_isWaiting
set_option maxRecDepth 20000 in
theorem ggX0_askHouse_X1_takeCopy : GoodIn wsX0_askHouse wsX1_takeCopy := goodIn_r _ [40, 31, 41, 42, 48, 49, 50, 51, 52, 53, 54, 55, 56, 57, 58, 59, 60] (by decide +kernel) (by decide +kernel)
set_option maxRecDepth 20000 in
theorem gX0_askHouse_X1_takeCopy_n157 : GoodIn wsX0_askHouse (wsX1_takeCopy) := ggX0_askHouse_X1_takeCopy
theorem dX0_askHouse_0 : decode cX0_askHouse 0 = .ok (.aload_n 1, 1) := by decide +kernel
theorem dX0_askHouse_1 : decode cX0_askHouse 1 = .ok (.dup, 1) := by decide +kernel
theorem dX0_askHouse_2 : decode cX0_askHouse 2 = .ok (.getfield 145, 3) := by decide +kernel
theorem dX0_askHouse_5 : decode cX0_askHouse 5 = .ok (.iconst 1, 1) := by decide +kernel
theorem dX0_askHouse_6 : decode cX0_askHouse 6 = .ok (.iadd, 1) := by decide +kernel
theorem dX0_askHouse_7 : decode cX0_askHouse 7 = .ok (.putfield 145, 3) := by decide +kernel
theorem dX0_askHouse_10 : decode cX0_askHouse 10 = .ok (.aload_n 1, 1) := by decide +kernel
theorem dX0_askHouse_11 : decode cX0_askHouse 11 = .ok (.iload_n 2, 1) := by decide +kernel
theorem dX0_askHouse_12 : decode cX0_askHouse 12 = .ok (.invokevirtual 95, 3) := by decide +kernel
theorem dX0_askHouse_15 : decode cX0_askHouse 15 = .ok (.istore_n 3, 1) := by decide +kernel
theorem dX0_askHouse_16 : decode cX0_askHouse 16 = .ok (.aload_n 0, 1) := by decide +kernel
theorem dX0_askHouse_17 : decode cX0_askHouse 17 = .ok (.aload_n 1, 1) := by decide +kernel
theorem dX0_askHouse_18 : decode cX0_askHouse 18 = .ok (.iload_n 3, 1) := by decide +kernel
theorem dX0_askHouse_19 : decode cX0_askHouse 19 = .ok (.invokevirtual 91, 3) := by decide +kernel
theorem dX0_askHouse_22 : decode cX0_askHouse 22 = .ok (.ifCond .ne 11, 3) := by decide +kernel
theorem dX0_askHouse_25 : decode cX0_askHouse 25 = .ok (.iload_n 3, 1) := by decide +kernel
theorem dX0_askHouse_26 : decode cX0_askHouse 26 = .ok (.aload_n 0, 1) := by decide +kernel
theorem dX0_askHouse_27 : decode cX0_askHouse 27 = .ok (.getfield 9, 3) := by decide +kernel
theorem dX0_askHouse_30 : decode cX0_askHouse 30 = .ok (.if_icmp .gt 12, 3) := by decide +kernel
theorem dX0_askHouse_33 : decode cX0_askHouse 33 = .ok (.aload_n 0, 1) := by decide +kernel
theorem dX0_askHouse_34 : decode cX0_askHouse 34 = .ok (.aload_n 1, 1) := by decide +kernel
theorem dX0_askHouse_35 : decode cX0_askHouse 35 = .ok (.iload_n 2, 1) := by decide +kernel
theorem dX0_askHouse_36 : decode cX0_askHouse 36 = .ok (.invokestatic 148, 3) := by decide +kernel
theorem dX0_askHouse_39 : decode cX0_askHouse 39 = .ok (.invokevirtual 151, 3) := by decide +kernel
theorem dX0_askHouse_42 : decode cX0_askHouse 42 = .ok (.aload_n 1, 1) := by decide +kernel
theorem dX0_askHouse_43 : decode cX0_askHouse 43 = .ok (.aload_n 0, 1) := by decide +kernel
theorem dX0_askHouse_44 : decode cX0_askHouse 44 = .ok (.getfield 26, 3) := by decide +kernel
theorem dX0_askHouse_47 : decode cX0_askHouse 47 = .ok (.iload_n 2, 1) := by decide +kernel
theorem dX0_askHouse_48 : decode cX0_askHouse 48 = .ok (.iaload, 1) := by decide +kernel
theorem dX0_askHouse_49 : decode cX0_askHouse 49 = .ok (.putfield 138, 3) := by decide +kernel
theorem dX0_askHouse_52 : decode cX0_askHouse 52 = .ok (.aload_n 0, 1) := by decide +kernel
theorem dX0_askHouse_53 : decode cX0_askHouse 53 = .ok (.iload_n 2, 1) := by decide +kernel
theorem dX0_askHouse_54 : decode cX0_askHouse 54 = .ok (.invokevirtual 154, 3) := by decide +kernel
theorem dX0_askHouse_57 : decode cX0_askHouse 57 = .ok (.ifCond .eq 5, 3) := by decide +kernel
theorem dX0_askHouse_60 : decode cX0_askHouse 60 = .ok (.iconst 3, 1) := by decide +kernel
theorem dX0_askHouse_61 : decode cX0_askHouse 61 = .ok (.ireturn, 1) := by decide +kernel
theorem dX0_askHouse_62 : decode cX0_askHouse 62 = .ok (.aload_n 1, 1) := by decide +kernel
theorem dX0_askHouse_63 : decode cX0_askHouse 63 = .ok (.iload_n 2, 1) := by decide +kernel
theorem dX0_askHouse_64 : decode cX0_askHouse 64 = .ok (.aload_n 0, 1) := by decide +kernel
theorem dX0_askHouse_65 : decode cX0_askHouse 65 = .ok (.getfield 26, 3) := by decide +kernel
theorem dX0_askHouse_68 : decode cX0_askHouse 68 = .ok (.iload_n 2, 1) := by decide +kernel
theorem dX0_askHouse_69 : decode cX0_askHouse 69 = .ok (.iaload, 1) := by decide +kernel
theorem dX0_askHouse_70 : decode cX0_askHouse 70 = .ok (.aload_n 0, 1) := by decide +kernel
theorem dX0_askHouse_71 : decode cX0_askHouse 71 = .ok (.getfield 9, 3) := by decide +kernel
theorem dX0_askHouse_74 : decode cX0_askHouse 74 = .ok (.aload_n 0, 1) := by decide +kernel
theorem dX0_askHouse_75 : decode cX0_askHouse 75 = .ok (.getfield 15, 3) := by decide +kernel
theorem dX0_askHouse_78 : decode cX0_askHouse 78 = .ok (.iconst 0, 1) := by decide +kernel
theorem dX0_askHouse_79 : decode cX0_askHouse 79 = .ok (.iaload, 1) := by decide +kernel
theorem dX0_askHouse_80 : decode cX0_askHouse 80 = .ok (.iadd, 1) := by decide +kernel
theorem dX0_askHouse_81 : decode cX0_askHouse 81 = .ok (.invokevirtual 157, 3) := by decide +kernel
theorem dX0_askHouse_84 : decode cX0_askHouse 84 = .ok (.iconst 2, 1) := by decide +kernel
theorem dX0_askHouse_85 : decode cX0_askHouse 85 = .ok (.ireturn, 1) := by decide +kernel
set_option maxRecDepth 20000 in
theorem ggX0_renew_X0_dropByList : GoodIn wsX0_renew wsX0_dropByList := goodIn_r _ [8, 1, 2, 9, 10, 11, 12, 13, 14, 15, 16, 17, 18, 19, 20, 21, 22, 23, 24, 25, 26, 27, 41, 42, 43, 44, 45, 46, 47, 48, 49, 50, 51, 52, 53, 54, 55, 56, 57, 28, 29, 30, 31, 32, 33, 34, 35, 36, 37, 38, 39, 40] (by decide +kernel) (by decide +kernel)
set_option maxRecDepth 20000 in
theorem gX0_renew_X0_dropByList : GoodIn wsX0_renew (wsV RX0 164 RX0 yX0_dropByList wsX0_dropByList) := goodIn_app (goodIn_of _ (by decide +kernel)) ggX0_renew_X0_dropByList
theorem dX0_renew_0 : decode cX0_renew 0 = .ok (.aload_n 1, 1) := by decide +kernel
theorem dX0_renew_1 : decode cX0_renew 1 = .ok (.getfield 161, 3) := by decide +kernel
theorem dX0_renew_4 : decode cX0_renew 4 = .ok (.iload_n 2, 1) := by decide +kernel
theorem dX0_renew_5 : decode cX0_renew 5 = .ok (.iaload, 1) := by decide +kernel
theorem dX0_renew_6 : decode cX0_renew 6 = .ok (.ifCond .eq 9, 3) := by decide +kernel
theorem dX0_renew_9 : decode cX0_renew 9 = .ok (.aload_n 0, 1) := by decide +kernel
theorem dX0_renew_10 : decode cX0_renew 10 = .ok (.aload_n 1, 1) := by decide +kernel
theorem dX0_renew_11 : decode cX0_renew 11 = .ok (.iload_n 2, 1) := by decide +kernel
theorem dX0_renew_12 : decode cX0_renew 12 = .ok (.invokevirtual 164, 3) := by decide +kernel
theorem dX0_renew_15 : decode cX0_renew 15 = .ok (.aload_n 1, 1) := by decide +kernel
theorem dX0_renew_16 : decode cX0_renew 16 = .ok (.getfield 167, 3) := by decide +kernel
theorem dX0_renew_19 : decode cX0_renew 19 = .ok (.iload_n 2, 1) := by decide +kernel
theorem dX0_renew_20 : decode cX0_renew 20 = .ok (.aload_n 0, 1) := by decide +kernel
theorem dX0_renew_21 : decode cX0_renew 21 = .ok (.getfield 9, 3) := by decide +kernel
theorem dX0_renew_24 : decode cX0_renew 24 = .ok (.aload_n 0, 1) := by decide +kernel
theorem dX0_renew_25 : decode cX0_renew 25 = .ok (.getfield 15, 3) := by decide +kernel
theorem dX0_renew_28 : decode cX0_renew 28 = .ok (.iconst 1, 1) := by decide +kernel
theorem dX0_renew_29 : decode cX0_renew 29 = .ok (.iaload, 1) := by decide +kernel
theorem dX0_renew_30 : decode cX0_renew 30 = .ok (.iadd, 1) := by decide +kernel
theorem dX0_renew_31 : decode cX0_renew 31 = .ok (.iastore, 1) := by decide +kernel
theorem dX0_renew_32 : decode cX0_renew 32 = .ok (.aload_n 0, 1) := by decide +kernel
theorem dX0_renew_33 : decode cX0_renew 33 = .ok (.dup, 1) := by decide +kernel
theorem dX0_renew_34 : decode cX0_renew 34 = .ok (.getfield 65, 3) := by decide +kernel
theorem dX0_renew_37 : decode cX0_renew 37 = .ok (.iconst 1, 1) := by decide +kernel
theorem dX0_renew_38 : decode cX0_renew 38 = .ok (.iadd, 1) := by decide +kernel
theorem dX0_renew_39 : decode cX0_renew 39 = .ok (.putfield 65, 3) := by decide +kernel
theorem dX0_renew_42 : decode cX0_renew 42 = .ok (.return_, 1) := by decide +kernel
set_option maxRecDepth 20000 in
theorem ggX0_dropByList_X2_isInSet : GoodIn wsX0_dropByList wsX2_isInSet := goodIn_r _ [5] (by decide +kernel) (by decide +kernel)
set_option maxRecDepth 20000 in
theorem gX0_dropByList_X2_isInSet_n170 : GoodIn wsX0_dropByList (wsX2_isInSet) := ggX0_dropByList_X2_isInSet
set_option maxRecDepth 20000 in
theorem ggX0_dropByList_X1_hasCopy : GoodIn wsX0_dropByList wsX1_hasCopy := goodIn_r _ [9, 10, 39, 40, 41, 42, 43, 44, 45, 46, 47, 48, 49, 50, 51] (by decide +kernel) (by decide +kernel)
set_option maxRecDepth 20000 in
theorem gX0_dropByList_X1_hasCopy_n84 : GoodIn wsX0_dropByList (wsX1_hasCopy) := ggX0_dropByList_X1_hasCopy
set_option maxRecDepth 20000 in
theorem ggX0_dropByList_X2_bit : GoodIn wsX0_dropByList wsX2_bit := goodIn_r _ [12] (by decide +kernel) (by decide +kernel)
set_option maxRecDepth 20000 in
theorem gX0_dropByList_X2_bit_n107 : GoodIn wsX0_dropByList (wsX2_bit) := ggX0_dropByList_X2_bit
set_option maxRecDepth 20000 in
theorem ggX0_dropByList_X1_dropCopy : GoodIn wsX0_dropByList wsX1_dropCopy := goodIn_r _ [15, 16, 17, 18, 7, 19, 10, 20, 21, 39, 40, 41, 42, 43, 44, 45, 46, 47, 48, 49, 50, 51] (by decide +kernel) (by decide +kernel)
set_option maxRecDepth 20000 in
theorem gX0_dropByList_X1_dropCopy_n177 : GoodIn wsX0_dropByList (wsX1_dropCopy) := ggX0_dropByList_X1_dropCopy
theorem dX0_dropByList_0 : decode cX0_dropByList 0 = .ok (.aload_n 0, 1) := by decide +kernel
theorem dX0_dropByList_1 : decode cX0_dropByList 1 = .ok (.getfield 9, 3) := by decide +kernel
theorem dX0_dropByList_4 : decode cX0_dropByList 4 = .ok (.aload_n 1, 1) := by decide +kernel
theorem dX0_dropByList_5 : decode cX0_dropByList 5 = .ok (.getfield 167, 3) := by decide +kernel
theorem dX0_dropByList_8 : decode cX0_dropByList 8 = .ok (.iload_n 2, 1) := by decide +kernel
theorem dX0_dropByList_9 : decode cX0_dropByList 9 = .ok (.iaload, 1) := by decide +kernel
theorem dX0_dropByList_10 : decode cX0_dropByList 10 = .ok (.isub, 1) := by decide +kernel
theorem dX0_dropByList_11 : decode cX0_dropByList 11 = .ok (.aload_n 0, 1) := by decide +kernel
theorem dX0_dropByList_12 : decode cX0_dropByList 12 = .ok (.getfield 15, 3) := by decide +kernel
theorem dX0_dropByList_15 : decode cX0_dropByList 15 = .ok (.iconst 3, 1) := by decide +kernel
theorem dX0_dropByList_16 : decode cX0_dropByList 16 = .ok (.iaload, 1) := by decide +kernel
theorem dX0_dropByList_17 : decode cX0_dropByList 17 = .ok (.if_icmp .le 7, 3) := by decide +kernel
theorem dX0_dropByList_20 : decode cX0_dropByList 20 = .ok (.iconst 1, 1) := by decide +kernel
theorem dX0_dropByList_21 : decode cX0_dropByList 21 = .ok (.goto 4, 3) := by decide +kernel
theorem dX0_dropByList_24 : decode cX0_dropByList 24 = .ok (.iconst 0, 1) := by decide +kernel
theorem dX0_dropByList_25 : decode cX0_dropByList 25 = .ok (.istore_n 3, 1) := by decide +kernel
theorem dX0_dropByList_26 : decode cX0_dropByList 26 = .ok (.iload_n 2, 1) := by decide +kernel
theorem dX0_dropByList_27 : decode cX0_dropByList 27 = .ok (.iconst 4, 1) := by decide +kernel
theorem dX0_dropByList_28 : decode cX0_dropByList 28 = .ok (.imul, 1) := by decide +kernel
theorem dX0_dropByList_29 : decode cX0_dropByList 29 = .ok (.istore 4, 2) := by decide +kernel
theorem dX0_dropByList_31 : decode cX0_dropByList 31 = .ok (.iload 4, 2) := by decide +kernel
theorem dX0_dropByList_33 : decode cX0_dropByList 33 = .ok (.istore 5, 2) := by decide +kernel
theorem dX0_dropByList_35 : decode cX0_dropByList 35 = .ok (.iload 5, 2) := by decide +kernel
theorem dX0_dropByList_37 : decode cX0_dropByList 37 = .ok (.iload 4, 2) := by decide +kernel
theorem dX0_dropByList_39 : decode cX0_dropByList 39 = .ok (.iconst 4, 1) := by decide +kernel
theorem dX0_dropByList_40 : decode cX0_dropByList 40 = .ok (.iadd, 1) := by decide +kernel
theorem dX0_dropByList_41 : decode cX0_dropByList 41 = .ok (.if_icmp .ge 51, 3) := by decide +kernel
theorem dX0_dropByList_44 : decode cX0_dropByList 44 = .ok (.iload_n 3, 1) := by decide +kernel
theorem dX0_dropByList_45 : decode cX0_dropByList 45 = .ok (.ifCond .ne 17, 3) := by decide +kernel
theorem dX0_dropByList_48 : decode cX0_dropByList 48 = .ok (.aload_n 1, 1) := by decide +kernel
theorem dX0_dropByList_49 : decode cX0_dropByList 49 = .ok (.getfield 161, 3) := by decide +kernel
theorem dX0_dropByList_52 : decode cX0_dropByList 52 = .ok (.iload_n 2, 1) := by decide +kernel
theorem dX0_dropByList_53 : decode cX0_dropByList 53 = .ok (.iaload, 1) := by decide +kernel
theorem dX0_dropByList_54 : decode cX0_dropByList 54 = .ok (.iload 5, 2) := by decide +kernel
theorem dX0_dropByList_56 : decode cX0_dropByList 56 = .ok (.invokestatic 170, 3) := by decide +kernel
theorem dX0_dropByList_59 : decode cX0_dropByList 59 = .ok (.ifCond .eq 27, 3) := by decide +kernel
theorem dX0_dropByList_62 : decode cX0_dropByList 62 = .ok (.aload_n 1, 1) := by decide +kernel
theorem dX0_dropByList_63 : decode cX0_dropByList 63 = .ok (.dup, 1) := by decide +kernel
theorem dX0_dropByList_64 : decode cX0_dropByList 64 = .ok (.getfield 174, 3) := by decide +kernel
theorem dX0_dropByList_67 : decode cX0_dropByList 67 = .ok (.aload_n 1, 1) := by decide +kernel
theorem dX0_dropByList_68 : decode cX0_dropByList 68 = .ok (.iload 5, 2) := by decide +kernel
theorem dX0_dropByList_70 : decode cX0_dropByList 70 = .ok (.invokevirtual 84, 3) := by decide +kernel
theorem dX0_dropByList_73 : decode cX0_dropByList 73 = .ok (.invokestatic 107, 3) := by decide +kernel
theorem dX0_dropByList_76 : decode cX0_dropByList 76 = .ok (.iadd, 1) := by decide +kernel
theorem dX0_dropByList_77 : decode cX0_dropByList 77 = .ok (.putfield 174, 3) := by decide +kernel
theorem dX0_dropByList_80 : decode cX0_dropByList 80 = .ok (.aload_n 1, 1) := by decide +kernel
theorem dX0_dropByList_81 : decode cX0_dropByList 81 = .ok (.iload 5, 2) := by decide +kernel
theorem dX0_dropByList_83 : decode cX0_dropByList 83 = .ok (.invokevirtual 177, 3) := by decide +kernel
theorem dX0_dropByList_86 : decode cX0_dropByList 86 = .ok (.iinc 5 1, 3) := by decide +kernel
theorem dX0_dropByList_89 : decode cX0_dropByList 89 = .ok (.goto (-54), 3) := by decide +kernel
theorem dX0_dropByList_92 : decode cX0_dropByList 92 = .ok (.aload_n 1, 1) := by decide +kernel
theorem dX0_dropByList_93 : decode cX0_dropByList 93 = .ok (.getfield 161, 3) := by decide +kernel
theorem dX0_dropByList_96 : decode cX0_dropByList 96 = .ok (.iload_n 2, 1) := by decide +kernel
theorem dX0_dropByList_97 : decode cX0_dropByList 97 = .ok (.iconst 0, 1) := by decide +kernel
theorem dX0_dropByList_98 : decode cX0_dropByList 98 = .ok (.iastore, 1) := by decide +kernel
theorem dX0_dropByList_99 : decode cX0_dropByList 99 = .ok (.return_, 1) := by decide +kernel
set_option maxRecDepth 20000 in
theorem ggX0_tellWrite_X0_settle : GoodIn wsX0_tellWrite wsX0_settle := goodIn_r _ [8, 9, 10, 2, 11, 12, 13, 14, 7, 15, 3, 16, 17, 18, 19, 20, 21, 22, 23, 24, 25, 26, 27, 28, 29, 30, 31, 32, 33, 34, 35, 36, 37, 38, 39, 40, 41, 42, 43, 44, 45, 46, 47, 48, 49, 50, 51, 52, 53, 54, 55, 87, 88, 89, 90, 91, 92, 93, 94, 95, 96, 97, 98, 99, 100, 101, 102, 103, 104, 105, 106, 107, 108, 109, 110, 111, 112, 113, 114, 115, 116] (by decide +kernel) (by decide +kernel)
set_option maxRecDepth 20000 in
theorem gX0_tellWrite_X0_settle : GoodIn wsX0_tellWrite (wsV RX0 181 RX0 yX0_settle wsX0_settle) := goodIn_app (goodIn_of _ (by decide +kernel)) ggX0_tellWrite_X0_settle
set_option maxRecDepth 20000 in
theorem ggX0_tellWrite_X0_noteWaitedFor : GoodIn wsX0_tellWrite wsX0_noteWaitedFor := goodIn_r _ [59, 60, 9, 12, 13, 14, 7, 15, 3, 61, 62, 63, 64, 65, 66, 21, 67, 68, 49, 69, 70, 71, 72, 73, 20, 22, 23, 24, 25, 26, 27, 87, 88, 89, 90, 91, 92, 93, 94, 95, 96, 97, 98, 99, 100, 101, 102, 103, 104, 105, 106, 107, 108, 109, 110, 111, 112, 113, 114, 115, 116] (by decide +kernel) (by decide +kernel)
set_option maxRecDepth 20000 in
theorem gX0_tellWrite_X0_noteWaitedFor : GoodIn wsX0_tellWrite (wsV RX0 184 RX0 yX0_noteWaitedFor wsX0_noteWaitedFor) := goodIn_app (goodIn_of _ (by decide +kernel)) ggX0_tellWrite_X0_noteWaitedFor
set_option maxRecDepth 20000 in
theorem ggX0_tellWrite_X0_joinLine : GoodIn wsX0_tellWrite wsX0_joinLine := goodIn_r _ [77, 78, 79, 87, 88, 89, 90, 91, 92, 93, 94, 95, 96, 97, 98, 99, 100, 101, 102, 103] (by decide +kernel) (by decide +kernel)
set_option maxRecDepth 20000 in
theorem gX0_tellWrite_X0_joinLine : GoodIn wsX0_tellWrite (wsV RX0 187 RX0 yX0_joinLine wsX0_joinLine) := goodIn_app (goodIn_of _ (by decide +kernel)) ggX0_tellWrite_X0_joinLine
set_option maxRecDepth 20000 in
theorem ggX0_tellWrite_X0_dueOf : GoodIn wsX0_tellWrite wsX0_dueOf := goodIn_r _ [83, 3, 9, 84, 85, 71, 86, 12, 13, 14, 7, 15, 66, 21, 67, 68, 49, 69, 70, 72, 73, 20, 22, 23, 24, 25, 26, 27, 87, 88, 89, 90, 91, 92, 93, 94, 95, 96, 97, 98, 99, 100, 101, 102, 103, 104, 105, 106, 107, 108, 109, 110, 111, 112, 113, 114, 115, 116] (by decide +kernel) (by decide +kernel)
set_option maxRecDepth 20000 in
theorem gX0_tellWrite_X0_dueOf : GoodIn wsX0_tellWrite (wsV RX0 190 RX0 yX0_dueOf wsX0_dueOf) := goodIn_app (goodIn_of _ (by decide +kernel)) ggX0_tellWrite_X0_dueOf
theorem dX0_tellWrite_0 : decode cX0_tellWrite 0 = .ok (.aload_n 0, 1) := by decide +kernel
theorem dX0_tellWrite_1 : decode cX0_tellWrite 1 = .ok (.dup, 1) := by decide +kernel
theorem dX0_tellWrite_2 : decode cX0_tellWrite 2 = .ok (.getfield 53, 3) := by decide +kernel
theorem dX0_tellWrite_5 : decode cX0_tellWrite 5 = .ok (.iconst 1, 1) := by decide +kernel
theorem dX0_tellWrite_6 : decode cX0_tellWrite 6 = .ok (.iadd, 1) := by decide +kernel
theorem dX0_tellWrite_7 : decode cX0_tellWrite 7 = .ok (.putfield 53, 3) := by decide +kernel
theorem dX0_tellWrite_10 : decode cX0_tellWrite 10 = .ok (.aload_n 0, 1) := by decide +kernel
theorem dX0_tellWrite_11 : decode cX0_tellWrite 11 = .ok (.getfield 29, 3) := by decide +kernel
theorem dX0_tellWrite_14 : decode cX0_tellWrite 14 = .ok (.iload_n 1, 1) := by decide +kernel
theorem dX0_tellWrite_15 : decode cX0_tellWrite 15 = .ok (.iload_n 2, 1) := by decide +kernel
theorem dX0_tellWrite_16 : decode cX0_tellWrite 16 = .ok (.iastore, 1) := by decide +kernel
theorem dX0_tellWrite_17 : decode cX0_tellWrite 17 = .ok (.aload_n 0, 1) := by decide +kernel
theorem dX0_tellWrite_18 : decode cX0_tellWrite 18 = .ok (.iload_n 1, 1) := by decide +kernel
theorem dX0_tellWrite_19 : decode cX0_tellWrite 19 = .ok (.invokevirtual 181, 3) := by decide +kernel
theorem dX0_tellWrite_22 : decode cX0_tellWrite 22 = .ok (.istore_n 3, 1) := by decide +kernel
theorem dX0_tellWrite_23 : decode cX0_tellWrite 23 = .ok (.aload_n 0, 1) := by decide +kernel
theorem dX0_tellWrite_24 : decode cX0_tellWrite 24 = .ok (.iload_n 1, 1) := by decide +kernel
theorem dX0_tellWrite_25 : decode cX0_tellWrite 25 = .ok (.invokevirtual 184, 3) := by decide +kernel
theorem dX0_tellWrite_28 : decode cX0_tellWrite 28 = .ok (.iload_n 3, 1) := by decide +kernel
theorem dX0_tellWrite_29 : decode cX0_tellWrite 29 = .ok (.ifCond .eq 5, 3) := by decide +kernel
theorem dX0_tellWrite_32 : decode cX0_tellWrite 32 = .ok (.iconst 0, 1) := by decide +kernel
theorem dX0_tellWrite_33 : decode cX0_tellWrite 33 = .ok (.ireturn, 1) := by decide +kernel
theorem dX0_tellWrite_34 : decode cX0_tellWrite 34 = .ok (.aload_n 0, 1) := by decide +kernel
theorem dX0_tellWrite_35 : decode cX0_tellWrite 35 = .ok (.iload_n 1, 1) := by decide +kernel
theorem dX0_tellWrite_36 : decode cX0_tellWrite 36 = .ok (.invokevirtual 187, 3) := by decide +kernel
theorem dX0_tellWrite_39 : decode cX0_tellWrite 39 = .ok (.aload_n 0, 1) := by decide +kernel
theorem dX0_tellWrite_40 : decode cX0_tellWrite 40 = .ok (.iload_n 1, 1) := by decide +kernel
theorem dX0_tellWrite_41 : decode cX0_tellWrite 41 = .ok (.invokevirtual 190, 3) := by decide +kernel
theorem dX0_tellWrite_44 : decode cX0_tellWrite 44 = .ok (.aload_n 0, 1) := by decide +kernel
theorem dX0_tellWrite_45 : decode cX0_tellWrite 45 = .ok (.getfield 9, 3) := by decide +kernel
theorem dX0_tellWrite_48 : decode cX0_tellWrite 48 = .ok (.isub, 1) := by decide +kernel
theorem dX0_tellWrite_49 : decode cX0_tellWrite 49 = .ok (.ireturn, 1) := by decide +kernel
theorem dX0_joinLine_0 : decode cX0_joinLine 0 = .ok (.aload_n 0, 1) := by decide +kernel
theorem dX0_joinLine_1 : decode cX0_joinLine 1 = .ok (.getfield 35, 3) := by decide +kernel
theorem dX0_joinLine_4 : decode cX0_joinLine 4 = .ok (.bipush 12, 2) := by decide +kernel
theorem dX0_joinLine_6 : decode cX0_joinLine 6 = .ok (.if_icmp .ge 23, 3) := by decide +kernel
theorem dX0_joinLine_9 : decode cX0_joinLine 9 = .ok (.aload_n 0, 1) := by decide +kernel
theorem dX0_joinLine_10 : decode cX0_joinLine 10 = .ok (.getfield 32, 3) := by decide +kernel
theorem dX0_joinLine_13 : decode cX0_joinLine 13 = .ok (.aload_n 0, 1) := by decide +kernel
theorem dX0_joinLine_14 : decode cX0_joinLine 14 = .ok (.getfield 35, 3) := by decide +kernel
theorem dX0_joinLine_17 : decode cX0_joinLine 17 = .ok (.iload_n 1, 1) := by decide +kernel
theorem dX0_joinLine_18 : decode cX0_joinLine 18 = .ok (.iastore, 1) := by decide +kernel
theorem dX0_joinLine_19 : decode cX0_joinLine 19 = .ok (.aload_n 0, 1) := by decide +kernel
theorem dX0_joinLine_20 : decode cX0_joinLine 20 = .ok (.dup, 1) := by decide +kernel
theorem dX0_joinLine_21 : decode cX0_joinLine 21 = .ok (.getfield 35, 3) := by decide +kernel
theorem dX0_joinLine_24 : decode cX0_joinLine 24 = .ok (.iconst 1, 1) := by decide +kernel
theorem dX0_joinLine_25 : decode cX0_joinLine 25 = .ok (.iadd, 1) := by decide +kernel
theorem dX0_joinLine_26 : decode cX0_joinLine 26 = .ok (.putfield 35, 3) := by decide +kernel
theorem dX0_joinLine_29 : decode cX0_joinLine 29 = .ok (.return_, 1) := by decide +kernel
set_option maxRecDepth 20000 in
theorem ggX0_settleAll_X0_settle : GoodIn wsX0_settleAll wsX0_settle := goodIn_r _ [7, 8, 9, 10, 11, 12, 13, 14, 6, 15, 16, 17, 18, 19, 20, 21, 22, 23, 24, 25, 26, 27, 28, 29, 30, 31, 32, 33, 34, 35, 36, 37, 38, 39, 40, 41, 42, 43, 44, 45, 46, 47, 48, 49, 50, 51, 52, 53, 54, 55, 56, 57, 58, 59, 60, 61, 62, 63, 64, 65, 66, 67, 68, 69, 70, 71, 72, 73, 74, 75, 76, 77, 78, 79, 80, 81, 82, 83, 84, 85, 86] (by decide +kernel) (by decide +kernel)
set_option maxRecDepth 20000 in
theorem gX0_settleAll_X0_settle : GoodIn wsX0_settleAll (wsV RX0 181 RX0 yX0_settle wsX0_settle) := goodIn_app (goodIn_of _ (by decide +kernel)) ggX0_settleAll_X0_settle
theorem dX0_settleAll_0 : decode cX0_settleAll 0 = .ok (.aload_n 0, 1) := by decide +kernel
theorem dX0_settleAll_1 : decode cX0_settleAll 1 = .ok (.getfield 35, 3) := by decide +kernel
theorem dX0_settleAll_4 : decode cX0_settleAll 4 = .ok (.istore_n 1, 1) := by decide +kernel
theorem dX0_settleAll_5 : decode cX0_settleAll 5 = .ok (.iconst 0, 1) := by decide +kernel
theorem dX0_settleAll_6 : decode cX0_settleAll 6 = .ok (.istore_n 2, 1) := by decide +kernel
theorem dX0_settleAll_7 : decode cX0_settleAll 7 = .ok (.iconst 0, 1) := by decide +kernel
theorem dX0_settleAll_8 : decode cX0_settleAll 8 = .ok (.istore_n 3, 1) := by decide +kernel
theorem dX0_settleAll_9 : decode cX0_settleAll 9 = .ok (.iload_n 3, 1) := by decide +kernel
theorem dX0_settleAll_10 : decode cX0_settleAll 10 = .ok (.iload_n 1, 1) := by decide +kernel
theorem dX0_settleAll_11 : decode cX0_settleAll 11 = .ok (.if_icmp .ge 37, 3) := by decide +kernel
theorem dX0_settleAll_14 : decode cX0_settleAll 14 = .ok (.aload_n 0, 1) := by decide +kernel
theorem dX0_settleAll_15 : decode cX0_settleAll 15 = .ok (.getfield 32, 3) := by decide +kernel
theorem dX0_settleAll_18 : decode cX0_settleAll 18 = .ok (.iload_n 3, 1) := by decide +kernel
theorem dX0_settleAll_19 : decode cX0_settleAll 19 = .ok (.iaload, 1) := by decide +kernel
theorem dX0_settleAll_20 : decode cX0_settleAll 20 = .ok (.istore 4, 2) := by decide +kernel
theorem dX0_settleAll_22 : decode cX0_settleAll 22 = .ok (.aload_n 0, 1) := by decide +kernel
theorem dX0_settleAll_23 : decode cX0_settleAll 23 = .ok (.iload 4, 2) := by decide +kernel
theorem dX0_settleAll_25 : decode cX0_settleAll 25 = .ok (.invokevirtual 181, 3) := by decide +kernel
theorem dX0_settleAll_28 : decode cX0_settleAll 28 = .ok (.ifCond .ne 14, 3) := by decide +kernel
theorem dX0_settleAll_31 : decode cX0_settleAll 31 = .ok (.aload_n 0, 1) := by decide +kernel
theorem dX0_settleAll_32 : decode cX0_settleAll 32 = .ok (.getfield 32, 3) := by decide +kernel
theorem dX0_settleAll_35 : decode cX0_settleAll 35 = .ok (.iload_n 2, 1) := by decide +kernel
theorem dX0_settleAll_36 : decode cX0_settleAll 36 = .ok (.iload 4, 2) := by decide +kernel
theorem dX0_settleAll_38 : decode cX0_settleAll 38 = .ok (.iastore, 1) := by decide +kernel
theorem dX0_settleAll_39 : decode cX0_settleAll 39 = .ok (.iinc 2 1, 3) := by decide +kernel
theorem dX0_settleAll_42 : decode cX0_settleAll 42 = .ok (.iinc 3 1, 3) := by decide +kernel
theorem dX0_settleAll_45 : decode cX0_settleAll 45 = .ok (.goto (-36), 3) := by decide +kernel
theorem dX0_settleAll_48 : decode cX0_settleAll 48 = .ok (.aload_n 0, 1) := by decide +kernel
theorem dX0_settleAll_49 : decode cX0_settleAll 49 = .ok (.iload_n 2, 1) := by decide +kernel
theorem dX0_settleAll_50 : decode cX0_settleAll 50 = .ok (.putfield 35, 3) := by decide +kernel
theorem dX0_settleAll_53 : decode cX0_settleAll 53 = .ok (.iload_n 1, 1) := by decide +kernel
theorem dX0_settleAll_54 : decode cX0_settleAll 54 = .ok (.iload_n 2, 1) := by decide +kernel
theorem dX0_settleAll_55 : decode cX0_settleAll 55 = .ok (.isub, 1) := by decide +kernel
theorem dX0_settleAll_56 : decode cX0_settleAll 56 = .ok (.ireturn, 1) := by decide +kernel
set_option maxRecDepth 20000 in
theorem ggX0_settle_X0_isHolder : GoodIn wsX0_settle wsX0_isHolder := goodIn_r _ [9, 10, 68, 69, 70, 71, 72, 73, 74, 75, 76, 77, 78, 79, 80, 51, 52, 53, 54, 55, 56, 57, 58, 59, 60, 61, 62, 63, 64, 65, 66, 67] (by decide +kernel) (by decide +kernel)
set_option maxRecDepth 20000 in
theorem gX0_settle_X0_isHolder : GoodIn wsX0_settle (wsV RX0 193 RX0 yX0_isHolder wsX0_isHolder) := goodIn_app (goodIn_of _ (by decide +kernel)) ggX0_settle_X0_isHolder
set_option maxRecDepth 20000 in
theorem ggX0_settle_X0_settleHolder : GoodIn wsX0_settle wsX0_settleHolder := goodIn_r _ [14, 10, 3, 15, 16, 17, 18, 19, 20, 21, 22, 23, 24, 25, 8, 26, 27, 28, 29, 30, 31, 32, 33, 34, 35, 36, 37, 38, 39, 40, 41, 42, 43, 44, 51, 52, 53, 54, 55, 56, 57, 58, 59, 60, 61, 62, 63, 64, 65, 66, 67, 68, 69, 70, 71, 72, 73, 74, 75, 76, 77, 78, 79, 80] (by decide +kernel) (by decide +kernel)
set_option maxRecDepth 20000 in
theorem gX0_settle_X0_settleHolder : GoodIn wsX0_settle (wsV RX0 196 RX0 yX0_settleHolder wsX0_settleHolder) := goodIn_app (goodIn_of _ (by decide +kernel)) ggX0_settle_X0_settleHolder
set_option maxRecDepth 20000 in
theorem ggX0_settle_X0_holdersOf : GoodIn wsX0_settle wsX0_holdersOf := goodIn_r _ [48, 1, 5, 6, 7, 8, 9, 10, 49, 21, 50, 51, 52, 53, 54, 55, 56, 57, 58, 59, 60, 61, 62, 63, 64, 65, 66, 67, 68, 69, 70, 71, 72, 73, 74, 75, 76, 77, 78, 79, 80] (by decide +kernel) (by decide +kernel)
set_option maxRecDepth 20000 in
theorem gX0_settle_X0_holdersOf : GoodIn wsX0_settle (wsV RX0 199 RX0 yX0_holdersOf wsX0_holdersOf) := goodIn_app (goodIn_of _ (by decide +kernel)) ggX0_settle_X0_holdersOf
theorem dX0_settle_0 : decode cX0_settle 0 = .ok (.iconst 0, 1) := by decide +kernel
theorem dX0_settle_1 : decode cX0_settle 1 = .ok (.istore_n 2, 1) := by decide +kernel
theorem dX0_settle_2 : decode cX0_settle 2 = .ok (.iload_n 2, 1) := by decide +kernel
theorem dX0_settle_3 : decode cX0_settle 3 = .ok (.iconst 5, 1) := by decide +kernel
theorem dX0_settle_4 : decode cX0_settle 4 = .ok (.if_icmp .ge 34, 3) := by decide +kernel
theorem dX0_settle_7 : decode cX0_settle 7 = .ok (.aload_n 0, 1) := by decide +kernel
theorem dX0_settle_8 : decode cX0_settle 8 = .ok (.aload_n 0, 1) := by decide +kernel
theorem dX0_settle_9 : decode cX0_settle 9 = .ok (.getfield 22, 3) := by decide +kernel
theorem dX0_settle_12 : decode cX0_settle 12 = .ok (.iload_n 2, 1) := by decide +kernel
theorem dX0_settle_13 : decode cX0_settle 13 = .ok (.aaload, 1) := by decide +kernel
theorem dX0_settle_14 : decode cX0_settle 14 = .ok (.iload_n 1, 1) := by decide +kernel
theorem dX0_settle_15 : decode cX0_settle 15 = .ok (.invokevirtual 193, 3) := by decide +kernel
theorem dX0_settle_18 : decode cX0_settle 18 = .ok (.ifCond .eq 14, 3) := by decide +kernel
theorem dX0_settle_21 : decode cX0_settle 21 = .ok (.aload_n 0, 1) := by decide +kernel
theorem dX0_settle_22 : decode cX0_settle 22 = .ok (.aload_n 0, 1) := by decide +kernel
theorem dX0_settle_23 : decode cX0_settle 23 = .ok (.getfield 22, 3) := by decide +kernel
theorem dX0_settle_26 : decode cX0_settle 26 = .ok (.iload_n 2, 1) := by decide +kernel
theorem dX0_settle_27 : decode cX0_settle 27 = .ok (.aaload, 1) := by decide +kernel
theorem dX0_settle_28 : decode cX0_settle 28 = .ok (.iload_n 1, 1) := by decide +kernel
theorem dX0_settle_29 : decode cX0_settle 29 = .ok (.invokevirtual 196, 3) := by decide +kernel
theorem dX0_settle_32 : decode cX0_settle 32 = .ok (.iinc 2 1, 3) := by decide +kernel
theorem dX0_settle_35 : decode cX0_settle 35 = .ok (.goto (-33), 3) := by decide +kernel
theorem dX0_settle_38 : decode cX0_settle 38 = .ok (.aload_n 0, 1) := by decide +kernel
theorem dX0_settle_39 : decode cX0_settle 39 = .ok (.iload_n 1, 1) := by decide +kernel
theorem dX0_settle_40 : decode cX0_settle 40 = .ok (.invokevirtual 199, 3) := by decide +kernel
theorem dX0_settle_43 : decode cX0_settle 43 = .ok (.ifCond .eq 5, 3) := by decide +kernel
theorem dX0_settle_46 : decode cX0_settle 46 = .ok (.iconst 0, 1) := by decide +kernel
theorem dX0_settle_47 : decode cX0_settle 47 = .ok (.ireturn, 1) := by decide +kernel
theorem dX0_settle_48 : decode cX0_settle 48 = .ok (.aload_n 0, 1) := by decide +kernel
theorem dX0_settle_49 : decode cX0_settle 49 = .ok (.getfield 26, 3) := by decide +kernel
theorem dX0_settle_52 : decode cX0_settle 52 = .ok (.iload_n 1, 1) := by decide +kernel
theorem dX0_settle_53 : decode cX0_settle 53 = .ok (.dup2, 1) := by decide +kernel
theorem dX0_settle_54 : decode cX0_settle 54 = .ok (.iaload, 1) := by decide +kernel
theorem dX0_settle_55 : decode cX0_settle 55 = .ok (.iconst 1, 1) := by decide +kernel
theorem dX0_settle_56 : decode cX0_settle 56 = .ok (.iadd, 1) := by decide +kernel
theorem dX0_settle_57 : decode cX0_settle 57 = .ok (.iastore, 1) := by decide +kernel
theorem dX0_settle_58 : decode cX0_settle 58 = .ok (.aload_n 0, 1) := by decide +kernel
theorem dX0_settle_59 : decode cX0_settle 59 = .ok (.getfield 29, 3) := by decide +kernel
theorem dX0_settle_62 : decode cX0_settle 62 = .ok (.iload_n 1, 1) := by decide +kernel
theorem dX0_settle_63 : decode cX0_settle 63 = .ok (.bipush (-6), 2) := by decide +kernel
theorem dX0_settle_65 : decode cX0_settle 65 = .ok (.iastore, 1) := by decide +kernel
theorem dX0_settle_66 : decode cX0_settle 66 = .ok (.aload_n 0, 1) := by decide +kernel
theorem dX0_settle_67 : decode cX0_settle 67 = .ok (.dup, 1) := by decide +kernel
theorem dX0_settle_68 : decode cX0_settle 68 = .ok (.getfield 56, 3) := by decide +kernel
theorem dX0_settle_71 : decode cX0_settle 71 = .ok (.iconst 1, 1) := by decide +kernel
theorem dX0_settle_72 : decode cX0_settle 72 = .ok (.iadd, 1) := by decide +kernel
theorem dX0_settle_73 : decode cX0_settle 73 = .ok (.putfield 56, 3) := by decide +kernel
theorem dX0_settle_76 : decode cX0_settle 76 = .ok (.iconst 1, 1) := by decide +kernel
theorem dX0_settle_77 : decode cX0_settle 77 = .ok (.ireturn, 1) := by decide +kernel
set_option maxRecDepth 20000 in
theorem ggX0_settleHolder_X1_volumeTermFor : GoodIn wsX0_settleHolder wsX1_volumeTermFor := goodIn_r _ [6, 7, 8, 9, 10, 51, 52, 53, 54, 55, 56, 57, 58, 59, 60, 61, 62, 63] (by decide +kernel) (by decide +kernel)
set_option maxRecDepth 20000 in
theorem gX0_settleHolder_X1_volumeTermFor_n95 : GoodIn wsX0_settleHolder (wsX1_volumeTermFor) := ggX0_settleHolder_X1_volumeTermFor
set_option maxRecDepth 20000 in
theorem ggX0_settleHolder_X0_putOnList : GoodIn wsX0_settleHolder wsX0_putOnList := goodIn_r _ [15, 16, 8, 9, 10, 17, 18, 51, 52, 53, 54, 55, 56, 57, 58, 59, 60, 61, 62, 63, 34, 35, 36, 37, 38, 39, 40, 41, 42, 43, 44, 45, 46, 47, 48, 49, 50] (by decide +kernel) (by decide +kernel)
set_option maxRecDepth 20000 in
theorem gX0_settleHolder_X0_putOnList : GoodIn wsX0_settleHolder (wsV RX0 202 RX0 yX0_putOnList wsX0_putOnList) := goodIn_app (goodIn_of _ (by decide +kernel)) ggX0_settleHolder_X0_putOnList
set_option maxRecDepth 20000 in
theorem ggX0_settleHolder_X0_sendLetter : GoodIn wsX0_settleHolder wsX0_sendLetter := goodIn_r _ [22, 23, 24, 4, 25, 26, 27, 28, 29, 30, 31, 32, 33, 34, 35, 36, 37, 38, 39, 40, 41, 42, 43, 44, 45, 46, 47, 48, 49, 50, 51, 52, 53, 54, 55, 56, 57, 58, 59, 60, 61, 62, 63] (by decide +kernel) (by decide +kernel)
set_option maxRecDepth 20000 in
theorem gX0_settleHolder_X0_sendLetter : GoodIn wsX0_settleHolder (wsV RX0 205 RX0 yX0_sendLetter wsX0_sendLetter) := goodIn_app (goodIn_of _ (by decide +kernel)) ggX0_settleHolder_X0_sendLetter
theorem dX0_settleHolder_0 : decode cX0_settleHolder 0 = .ok (.aload_n 1, 1) := by decide +kernel
theorem dX0_settleHolder_1 : decode cX0_settleHolder 1 = .ok (.iload_n 2, 1) := by decide +kernel
theorem dX0_settleHolder_2 : decode cX0_settleHolder 2 = .ok (.invokevirtual 95, 3) := by decide +kernel
theorem dX0_settleHolder_5 : decode cX0_settleHolder 5 = .ok (.aload_n 0, 1) := by decide +kernel
theorem dX0_settleHolder_6 : decode cX0_settleHolder 6 = .ok (.getfield 9, 3) := by decide +kernel
theorem dX0_settleHolder_9 : decode cX0_settleHolder 9 = .ok (.if_icmp .gt 12, 3) := by decide +kernel
theorem dX0_settleHolder_12 : decode cX0_settleHolder 12 = .ok (.aload_n 0, 1) := by decide +kernel
theorem dX0_settleHolder_13 : decode cX0_settleHolder 13 = .ok (.aload_n 1, 1) := by decide +kernel
theorem dX0_settleHolder_14 : decode cX0_settleHolder 14 = .ok (.iload_n 2, 1) := by decide +kernel
theorem dX0_settleHolder_15 : decode cX0_settleHolder 15 = .ok (.invokevirtual 202, 3) := by decide +kernel
theorem dX0_settleHolder_18 : decode cX0_settleHolder 18 = .ok (.goto 26, 3) := by decide +kernel
theorem dX0_settleHolder_21 : decode cX0_settleHolder 21 = .ok (.aload_n 0, 1) := by decide +kernel
theorem dX0_settleHolder_22 : decode cX0_settleHolder 22 = .ok (.getfield 29, 3) := by decide +kernel
theorem dX0_settleHolder_25 : decode cX0_settleHolder 25 = .ok (.iload_n 2, 1) := by decide +kernel
theorem dX0_settleHolder_26 : decode cX0_settleHolder 26 = .ok (.iaload, 1) := by decide +kernel
theorem dX0_settleHolder_27 : decode cX0_settleHolder 27 = .ok (.iconst 1, 1) := by decide +kernel
theorem dX0_settleHolder_28 : decode cX0_settleHolder 28 = .ok (.if_icmp .ne 16, 3) := by decide +kernel
theorem dX0_settleHolder_31 : decode cX0_settleHolder 31 = .ok (.aload_n 1, 1) := by decide +kernel
theorem dX0_settleHolder_32 : decode cX0_settleHolder 32 = .ok (.getfield 122, 3) := by decide +kernel
theorem dX0_settleHolder_35 : decode cX0_settleHolder 35 = .ok (.ifCond .eq 9, 3) := by decide +kernel
theorem dX0_settleHolder_38 : decode cX0_settleHolder 38 = .ok (.aload_n 0, 1) := by decide +kernel
theorem dX0_settleHolder_39 : decode cX0_settleHolder 39 = .ok (.aload_n 1, 1) := by decide +kernel
theorem dX0_settleHolder_40 : decode cX0_settleHolder 40 = .ok (.iload_n 2, 1) := by decide +kernel
theorem dX0_settleHolder_41 : decode cX0_settleHolder 41 = .ok (.invokevirtual 205, 3) := by decide +kernel
theorem dX0_settleHolder_44 : decode cX0_settleHolder 44 = .ok (.return_, 1) := by decide +kernel
set_option maxRecDepth 20000 in
theorem ggX0_putOnList_X2_volumeOf : GoodIn wsX0_putOnList wsX2_volumeOf := goodIn_r _ [4] (by decide +kernel) (by decide +kernel)
set_option maxRecDepth 20000 in
theorem gX0_putOnList_X2_volumeOf_n148 : GoodIn wsX0_putOnList (wsX2_volumeOf) := ggX0_putOnList_X2_volumeOf
set_option maxRecDepth 20000 in
theorem ggX0_putOnList_X2_isInSet : GoodIn wsX0_putOnList wsX2_isInSet := goodIn_r _ [6] (by decide +kernel) (by decide +kernel)
set_option maxRecDepth 20000 in
theorem gX0_putOnList_X2_isInSet_n170 : GoodIn wsX0_putOnList (wsX2_isInSet) := ggX0_putOnList_X2_isInSet
theorem dX0_putOnList_0 : decode cX0_putOnList 0 = .ok (.iload_n 2, 1) := by decide +kernel
theorem dX0_putOnList_1 : decode cX0_putOnList 1 = .ok (.invokestatic 148, 3) := by decide +kernel
theorem dX0_putOnList_4 : decode cX0_putOnList 4 = .ok (.istore_n 3, 1) := by decide +kernel
theorem dX0_putOnList_5 : decode cX0_putOnList 5 = .ok (.aload_n 1, 1) := by decide +kernel
theorem dX0_putOnList_6 : decode cX0_putOnList 6 = .ok (.getfield 161, 3) := by decide +kernel
theorem dX0_putOnList_9 : decode cX0_putOnList 9 = .ok (.iload_n 3, 1) := by decide +kernel
theorem dX0_putOnList_10 : decode cX0_putOnList 10 = .ok (.iaload, 1) := by decide +kernel
theorem dX0_putOnList_11 : decode cX0_putOnList 11 = .ok (.iload_n 2, 1) := by decide +kernel
theorem dX0_putOnList_12 : decode cX0_putOnList 12 = .ok (.invokestatic 170, 3) := by decide +kernel
theorem dX0_putOnList_15 : decode cX0_putOnList 15 = .ok (.ifCond .ne 13, 3) := by decide +kernel
theorem dX0_putOnList_18 : decode cX0_putOnList 18 = .ok (.aload_n 0, 1) := by decide +kernel
theorem dX0_putOnList_19 : decode cX0_putOnList 19 = .ok (.dup, 1) := by decide +kernel
theorem dX0_putOnList_20 : decode cX0_putOnList 20 = .ok (.getfield 62, 3) := by decide +kernel
theorem dX0_putOnList_23 : decode cX0_putOnList 23 = .ok (.iconst 1, 1) := by decide +kernel
theorem dX0_putOnList_24 : decode cX0_putOnList 24 = .ok (.iadd, 1) := by decide +kernel
theorem dX0_putOnList_25 : decode cX0_putOnList 25 = .ok (.putfield 62, 3) := by decide +kernel
theorem dX0_putOnList_28 : decode cX0_putOnList 28 = .ok (.aload_n 1, 1) := by decide +kernel
theorem dX0_putOnList_29 : decode cX0_putOnList 29 = .ok (.getfield 161, 3) := by decide +kernel
theorem dX0_putOnList_32 : decode cX0_putOnList 32 = .ok (.iload_n 3, 1) := by decide +kernel
theorem dX0_putOnList_33 : decode cX0_putOnList 33 = .ok (.dup2, 1) := by decide +kernel
theorem dX0_putOnList_34 : decode cX0_putOnList 34 = .ok (.iaload, 1) := by decide +kernel
theorem dX0_putOnList_35 : decode cX0_putOnList 35 = .ok (.iconst 1, 1) := by decide +kernel
theorem dX0_putOnList_36 : decode cX0_putOnList 36 = .ok (.iload_n 2, 1) := by decide +kernel
theorem dX0_putOnList_37 : decode cX0_putOnList 37 = .ok (.ishl, 1) := by decide +kernel
theorem dX0_putOnList_38 : decode cX0_putOnList 38 = .ok (.ior, 1) := by decide +kernel
theorem dX0_putOnList_39 : decode cX0_putOnList 39 = .ok (.iastore, 1) := by decide +kernel
theorem dX0_putOnList_40 : decode cX0_putOnList 40 = .ok (.aload_n 1, 1) := by decide +kernel
theorem dX0_putOnList_41 : decode cX0_putOnList 41 = .ok (.getfield 99, 3) := by decide +kernel
theorem dX0_putOnList_44 : decode cX0_putOnList 44 = .ok (.iload_n 2, 1) := by decide +kernel
theorem dX0_putOnList_45 : decode cX0_putOnList 45 = .ok (.iconst 0, 1) := by decide +kernel
theorem dX0_putOnList_46 : decode cX0_putOnList 46 = .ok (.iastore, 1) := by decide +kernel
theorem dX0_putOnList_47 : decode cX0_putOnList 47 = .ok (.return_, 1) := by decide +kernel
set_option maxRecDepth 20000 in
theorem ggX0_sendLetter_X1_dropCopy : GoodIn wsX0_sendLetter wsX1_dropCopy := goodIn_r _ [5, 6, 7, 8, 3, 9, 10, 11, 12, 30, 31, 32, 33, 34, 35, 36, 37, 38, 39, 40, 41, 42] (by decide +kernel) (by decide +kernel)
set_option maxRecDepth 20000 in
theorem gX0_sendLetter_X1_dropCopy_n177 : GoodIn wsX0_sendLetter (wsX1_dropCopy) := ggX0_sendLetter_X1_dropCopy
theorem dX0_sendLetter_0 : decode cX0_sendLetter 0 = .ok (.aload_n 0, 1) := by decide +kernel
theorem dX0_sendLetter_1 : decode cX0_sendLetter 1 = .ok (.dup, 1) := by decide +kernel
theorem dX0_sendLetter_2 : decode cX0_sendLetter 2 = .ok (.getfield 59, 3) := by decide +kernel
theorem dX0_sendLetter_5 : decode cX0_sendLetter 5 = .ok (.iconst 1, 1) := by decide +kernel
theorem dX0_sendLetter_6 : decode cX0_sendLetter 6 = .ok (.iadd, 1) := by decide +kernel
theorem dX0_sendLetter_7 : decode cX0_sendLetter 7 = .ok (.putfield 59, 3) := by decide +kernel
theorem dX0_sendLetter_10 : decode cX0_sendLetter 10 = .ok (.aload_n 1, 1) := by decide +kernel
theorem dX0_sendLetter_11 : decode cX0_sendLetter 11 = .ok (.dup, 1) := by decide +kernel
theorem dX0_sendLetter_12 : decode cX0_sendLetter 12 = .ok (.getfield 208, 3) := by decide +kernel
theorem dX0_sendLetter_15 : decode cX0_sendLetter 15 = .ok (.iconst 1, 1) := by decide +kernel
theorem dX0_sendLetter_16 : decode cX0_sendLetter 16 = .ok (.iadd, 1) := by decide +kernel
theorem dX0_sendLetter_17 : decode cX0_sendLetter 17 = .ok (.putfield 208, 3) := by decide +kernel
theorem dX0_sendLetter_20 : decode cX0_sendLetter 20 = .ok (.aload_n 1, 1) := by decide +kernel
theorem dX0_sendLetter_21 : decode cX0_sendLetter 21 = .ok (.iload_n 2, 1) := by decide +kernel
theorem dX0_sendLetter_22 : decode cX0_sendLetter 22 = .ok (.invokevirtual 177, 3) := by decide +kernel
theorem dX0_sendLetter_25 : decode cX0_sendLetter 25 = .ok (.return_, 1) := by decide +kernel
set_option maxRecDepth 20000 in
theorem ggX0_dueOf_X0_isHolder : GoodIn wsX0_dueOf wsX0_isHolder := goodIn_r _ [11, 1, 45, 46, 47, 48, 49, 50, 51, 52, 53, 54, 55, 56, 57, 28, 29, 30, 31, 32, 33, 34, 35, 36, 37, 38, 39, 40, 41, 42, 43, 44] (by decide +kernel) (by decide +kernel)
set_option maxRecDepth 20000 in
theorem gX0_dueOf_X0_isHolder : GoodIn wsX0_dueOf (wsV RX0 193 RX0 yX0_isHolder wsX0_isHolder) := goodIn_app (goodIn_of _ (by decide +kernel)) ggX0_dueOf_X0_isHolder
set_option maxRecDepth 20000 in
theorem ggX0_dueOf_X1_holdsUntil : GoodIn wsX0_dueOf wsX1_holdsUntil := goodIn_r _ [15, 16, 17, 18, 5, 19, 20, 21, 22, 13, 23, 24, 25, 26, 27, 45, 46, 47, 48, 49, 50, 51, 52, 53, 54, 55, 56, 57] (by decide +kernel) (by decide +kernel)
set_option maxRecDepth 20000 in
theorem gX0_dueOf_X1_holdsUntil_n211 : GoodIn wsX0_dueOf (wsX1_holdsUntil) := ggX0_dueOf_X1_holdsUntil
theorem dX0_dueOf_0 : decode cX0_dueOf 0 = .ok (.aload_n 0, 1) := by decide +kernel
theorem dX0_dueOf_1 : decode cX0_dueOf 1 = .ok (.getfield 9, 3) := by decide +kernel
theorem dX0_dueOf_4 : decode cX0_dueOf 4 = .ok (.iconst 1, 1) := by decide +kernel
theorem dX0_dueOf_5 : decode cX0_dueOf 5 = .ok (.iadd, 1) := by decide +kernel
theorem dX0_dueOf_6 : decode cX0_dueOf 6 = .ok (.istore_n 2, 1) := by decide +kernel
theorem dX0_dueOf_7 : decode cX0_dueOf 7 = .ok (.iconst 0, 1) := by decide +kernel
theorem dX0_dueOf_8 : decode cX0_dueOf 8 = .ok (.istore_n 3, 1) := by decide +kernel
theorem dX0_dueOf_9 : decode cX0_dueOf 9 = .ok (.iload_n 3, 1) := by decide +kernel
theorem dX0_dueOf_10 : decode cX0_dueOf 10 = .ok (.iconst 5, 1) := by decide +kernel
theorem dX0_dueOf_11 : decode cX0_dueOf 11 = .ok (.if_icmp .ge 38, 3) := by decide +kernel
theorem dX0_dueOf_14 : decode cX0_dueOf 14 = .ok (.aload_n 0, 1) := by decide +kernel
theorem dX0_dueOf_15 : decode cX0_dueOf 15 = .ok (.aload_n 0, 1) := by decide +kernel
theorem dX0_dueOf_16 : decode cX0_dueOf 16 = .ok (.getfield 22, 3) := by decide +kernel
theorem dX0_dueOf_19 : decode cX0_dueOf 19 = .ok (.iload_n 3, 1) := by decide +kernel
theorem dX0_dueOf_20 : decode cX0_dueOf 20 = .ok (.aaload, 1) := by decide +kernel
theorem dX0_dueOf_21 : decode cX0_dueOf 21 = .ok (.iload_n 1, 1) := by decide +kernel
theorem dX0_dueOf_22 : decode cX0_dueOf 22 = .ok (.invokevirtual 193, 3) := by decide +kernel
theorem dX0_dueOf_25 : decode cX0_dueOf 25 = .ok (.ifCond .eq 18, 3) := by decide +kernel
theorem dX0_dueOf_28 : decode cX0_dueOf 28 = .ok (.iload_n 2, 1) := by decide +kernel
theorem dX0_dueOf_29 : decode cX0_dueOf 29 = .ok (.aload_n 0, 1) := by decide +kernel
theorem dX0_dueOf_30 : decode cX0_dueOf 30 = .ok (.getfield 22, 3) := by decide +kernel
theorem dX0_dueOf_33 : decode cX0_dueOf 33 = .ok (.iload_n 3, 1) := by decide +kernel
theorem dX0_dueOf_34 : decode cX0_dueOf 34 = .ok (.aaload, 1) := by decide +kernel
theorem dX0_dueOf_35 : decode cX0_dueOf 35 = .ok (.iload_n 1, 1) := by decide +kernel
theorem dX0_dueOf_36 : decode cX0_dueOf 36 = .ok (.invokevirtual 211, 3) := by decide +kernel
theorem dX0_dueOf_39 : decode cX0_dueOf 39 = .ok (.invokestatic 214, 3) := by decide +kernel
theorem dX0_dueOf_42 : decode cX0_dueOf 42 = .ok (.istore_n 2, 1) := by decide +kernel
theorem dX0_dueOf_43 : decode cX0_dueOf 43 = .ok (.iinc 3 1, 3) := by decide +kernel
theorem dX0_dueOf_46 : decode cX0_dueOf 46 = .ok (.goto (-37), 3) := by decide +kernel
theorem dX0_dueOf_49 : decode cX0_dueOf 49 = .ok (.iload_n 2, 1) := by decide +kernel
theorem dX0_dueOf_50 : decode cX0_dueOf 50 = .ok (.ireturn, 1) := by decide +kernel
set_option maxRecDepth 20000 in
theorem ggX0_noteWaitedFor_X0_isHolder : GoodIn wsX0_noteWaitedFor wsX0_isHolder := goodIn_r _ [7, 8, 48, 49, 50, 51, 52, 53, 54, 55, 56, 57, 58, 59, 60, 31, 32, 33, 34, 35, 36, 37, 38, 39, 40, 41, 42, 43, 44, 45, 46, 47] (by decide +kernel) (by decide +kernel)
set_option maxRecDepth 20000 in
theorem gX0_noteWaitedFor_X0_isHolder : GoodIn wsX0_noteWaitedFor (wsV RX0 193 RX0 yX0_isHolder wsX0_isHolder) := goodIn_app (goodIn_of _ (by decide +kernel)) ggX0_noteWaitedFor_X0_isHolder
set_option maxRecDepth 20000 in
theorem ggX0_noteWaitedFor_X0_insertWaitedFor : GoodIn wsX0_noteWaitedFor wsX0_insertWaitedFor := goodIn_r _ [12, 2, 1, 13, 14, 15, 16, 17, 18, 19, 20, 21, 22, 23, 24, 25, 26, 27, 28, 29, 30, 31, 32, 33, 34, 35, 36, 37, 38, 39, 40, 41, 42, 43, 44, 45, 46, 47, 48, 49, 50, 51, 52, 53, 54, 55, 56, 57, 58, 59, 60] (by decide +kernel) (by decide +kernel)
set_option maxRecDepth 20000 in
theorem gX0_noteWaitedFor_X0_insertWaitedFor : GoodIn wsX0_noteWaitedFor (wsV RX0 218 RX0 yX0_insertWaitedFor wsX0_insertWaitedFor) := goodIn_app (goodIn_of _ (by decide +kernel)) ggX0_noteWaitedFor_X0_insertWaitedFor
theorem dX0_noteWaitedFor_0 : decode cX0_noteWaitedFor 0 = .ok (.aload_n 0, 1) := by decide +kernel
theorem dX0_noteWaitedFor_1 : decode cX0_noteWaitedFor 1 = .ok (.iconst 0, 1) := by decide +kernel
theorem dX0_noteWaitedFor_2 : decode cX0_noteWaitedFor 2 = .ok (.putfield 47, 3) := by decide +kernel
theorem dX0_noteWaitedFor_5 : decode cX0_noteWaitedFor 5 = .ok (.iconst 0, 1) := by decide +kernel
theorem dX0_noteWaitedFor_6 : decode cX0_noteWaitedFor 6 = .ok (.istore_n 2, 1) := by decide +kernel
theorem dX0_noteWaitedFor_7 : decode cX0_noteWaitedFor 7 = .ok (.iload_n 2, 1) := by decide +kernel
theorem dX0_noteWaitedFor_8 : decode cX0_noteWaitedFor 8 = .ok (.iconst 5, 1) := by decide +kernel
theorem dX0_noteWaitedFor_9 : decode cX0_noteWaitedFor 9 = .ok (.if_icmp .ge 29, 3) := by decide +kernel
theorem dX0_noteWaitedFor_12 : decode cX0_noteWaitedFor 12 = .ok (.aload_n 0, 1) := by decide +kernel
theorem dX0_noteWaitedFor_13 : decode cX0_noteWaitedFor 13 = .ok (.aload_n 0, 1) := by decide +kernel
theorem dX0_noteWaitedFor_14 : decode cX0_noteWaitedFor 14 = .ok (.getfield 22, 3) := by decide +kernel
theorem dX0_noteWaitedFor_17 : decode cX0_noteWaitedFor 17 = .ok (.iload_n 2, 1) := by decide +kernel
theorem dX0_noteWaitedFor_18 : decode cX0_noteWaitedFor 18 = .ok (.aaload, 1) := by decide +kernel
theorem dX0_noteWaitedFor_19 : decode cX0_noteWaitedFor 19 = .ok (.iload_n 1, 1) := by decide +kernel
theorem dX0_noteWaitedFor_20 : decode cX0_noteWaitedFor 20 = .ok (.invokevirtual 193, 3) := by decide +kernel
theorem dX0_noteWaitedFor_23 : decode cX0_noteWaitedFor 23 = .ok (.ifCond .eq 9, 3) := by decide +kernel
theorem dX0_noteWaitedFor_26 : decode cX0_noteWaitedFor 26 = .ok (.aload_n 0, 1) := by decide +kernel
theorem dX0_noteWaitedFor_27 : decode cX0_noteWaitedFor 27 = .ok (.iload_n 2, 1) := by decide +kernel
theorem dX0_noteWaitedFor_28 : decode cX0_noteWaitedFor 28 = .ok (.iload_n 1, 1) := by decide +kernel
theorem dX0_noteWaitedFor_29 : decode cX0_noteWaitedFor 29 = .ok (.invokevirtual 218, 3) := by decide +kernel
theorem dX0_noteWaitedFor_32 : decode cX0_noteWaitedFor 32 = .ok (.iinc 2 1, 3) := by decide +kernel
theorem dX0_noteWaitedFor_35 : decode cX0_noteWaitedFor 35 = .ok (.goto (-28), 3) := by decide +kernel
theorem dX0_noteWaitedFor_38 : decode cX0_noteWaitedFor 38 = .ok (.return_, 1) := by decide +kernel
set_option maxRecDepth 20000 in
theorem ggX0_insertWaitedFor_X1_holdsUntil : GoodIn wsX0_insertWaitedFor wsX1_holdsUntil := goodIn_r _ [7, 8, 9, 10, 11, 12, 13, 14, 15, 5, 16, 17, 18, 19, 20, 38, 39, 40, 41, 42, 43, 44, 45, 46, 47, 48, 49, 50] (by decide +kernel) (by decide +kernel)
set_option maxRecDepth 20000 in
theorem gX0_insertWaitedFor_X1_holdsUntil_n211 : GoodIn wsX0_insertWaitedFor (wsX1_holdsUntil) := ggX0_insertWaitedFor_X1_holdsUntil
theorem dX0_insertWaitedFor_0 : decode cX0_insertWaitedFor 0 = .ok (.aload_n 0, 1) := by decide +kernel
theorem dX0_insertWaitedFor_1 : decode cX0_insertWaitedFor 1 = .ok (.getfield 22, 3) := by decide +kernel
theorem dX0_insertWaitedFor_4 : decode cX0_insertWaitedFor 4 = .ok (.iload_n 1, 1) := by decide +kernel
theorem dX0_insertWaitedFor_5 : decode cX0_insertWaitedFor 5 = .ok (.aaload, 1) := by decide +kernel
theorem dX0_insertWaitedFor_6 : decode cX0_insertWaitedFor 6 = .ok (.iload_n 2, 1) := by decide +kernel
theorem dX0_insertWaitedFor_7 : decode cX0_insertWaitedFor 7 = .ok (.invokevirtual 211, 3) := by decide +kernel
theorem dX0_insertWaitedFor_10 : decode cX0_insertWaitedFor 10 = .ok (.istore_n 3, 1) := by decide +kernel
theorem dX0_insertWaitedFor_11 : decode cX0_insertWaitedFor 11 = .ok (.aload_n 0, 1) := by decide +kernel
theorem dX0_insertWaitedFor_12 : decode cX0_insertWaitedFor 12 = .ok (.getfield 47, 3) := by decide +kernel
theorem dX0_insertWaitedFor_15 : decode cX0_insertWaitedFor 15 = .ok (.istore 4, 2) := by decide +kernel
theorem dX0_insertWaitedFor_17 : decode cX0_insertWaitedFor 17 = .ok (.iload 4, 2) := by decide +kernel
theorem dX0_insertWaitedFor_19 : decode cX0_insertWaitedFor 19 = .ok (.ifCond .le 47, 3) := by decide +kernel
theorem dX0_insertWaitedFor_22 : decode cX0_insertWaitedFor 22 = .ok (.aload_n 0, 1) := by decide +kernel
theorem dX0_insertWaitedFor_23 : decode cX0_insertWaitedFor 23 = .ok (.getfield 22, 3) := by decide +kernel
theorem dX0_insertWaitedFor_26 : decode cX0_insertWaitedFor 26 = .ok (.aload_n 0, 1) := by decide +kernel
theorem dX0_insertWaitedFor_27 : decode cX0_insertWaitedFor 27 = .ok (.getfield 44, 3) := by decide +kernel
theorem dX0_insertWaitedFor_30 : decode cX0_insertWaitedFor 30 = .ok (.iload 4, 2) := by decide +kernel
theorem dX0_insertWaitedFor_32 : decode cX0_insertWaitedFor 32 = .ok (.iconst 1, 1) := by decide +kernel
theorem dX0_insertWaitedFor_33 : decode cX0_insertWaitedFor 33 = .ok (.isub, 1) := by decide +kernel
theorem dX0_insertWaitedFor_34 : decode cX0_insertWaitedFor 34 = .ok (.iaload, 1) := by decide +kernel
theorem dX0_insertWaitedFor_35 : decode cX0_insertWaitedFor 35 = .ok (.aaload, 1) := by decide +kernel
theorem dX0_insertWaitedFor_36 : decode cX0_insertWaitedFor 36 = .ok (.iload_n 2, 1) := by decide +kernel
theorem dX0_insertWaitedFor_37 : decode cX0_insertWaitedFor 37 = .ok (.invokevirtual 211, 3) := by decide +kernel
theorem dX0_insertWaitedFor_40 : decode cX0_insertWaitedFor 40 = .ok (.iload_n 3, 1) := by decide +kernel
theorem dX0_insertWaitedFor_41 : decode cX0_insertWaitedFor 41 = .ok (.if_icmp .ge 25, 3) := by decide +kernel
theorem dX0_insertWaitedFor_44 : decode cX0_insertWaitedFor 44 = .ok (.aload_n 0, 1) := by decide +kernel
theorem dX0_insertWaitedFor_45 : decode cX0_insertWaitedFor 45 = .ok (.getfield 44, 3) := by decide +kernel
theorem dX0_insertWaitedFor_48 : decode cX0_insertWaitedFor 48 = .ok (.iload 4, 2) := by decide +kernel
theorem dX0_insertWaitedFor_50 : decode cX0_insertWaitedFor 50 = .ok (.aload_n 0, 1) := by decide +kernel
theorem dX0_insertWaitedFor_51 : decode cX0_insertWaitedFor 51 = .ok (.getfield 44, 3) := by decide +kernel
theorem dX0_insertWaitedFor_54 : decode cX0_insertWaitedFor 54 = .ok (.iload 4, 2) := by decide +kernel
theorem dX0_insertWaitedFor_56 : decode cX0_insertWaitedFor 56 = .ok (.iconst 1, 1) := by decide +kernel
theorem dX0_insertWaitedFor_57 : decode cX0_insertWaitedFor 57 = .ok (.isub, 1) := by decide +kernel
theorem dX0_insertWaitedFor_58 : decode cX0_insertWaitedFor 58 = .ok (.iaload, 1) := by decide +kernel
theorem dX0_insertWaitedFor_59 : decode cX0_insertWaitedFor 59 = .ok (.iastore, 1) := by decide +kernel
theorem dX0_insertWaitedFor_60 : decode cX0_insertWaitedFor 60 = .ok (.iinc 4 (-1), 3) := by decide +kernel
theorem dX0_insertWaitedFor_63 : decode cX0_insertWaitedFor 63 = .ok (.goto (-46), 3) := by decide +kernel
theorem dX0_insertWaitedFor_66 : decode cX0_insertWaitedFor 66 = .ok (.aload_n 0, 1) := by decide +kernel
theorem dX0_insertWaitedFor_67 : decode cX0_insertWaitedFor 67 = .ok (.getfield 44, 3) := by decide +kernel
theorem dX0_insertWaitedFor_70 : decode cX0_insertWaitedFor 70 = .ok (.iload 4, 2) := by decide +kernel
theorem dX0_insertWaitedFor_72 : decode cX0_insertWaitedFor 72 = .ok (.iload_n 1, 1) := by decide +kernel
theorem dX0_insertWaitedFor_73 : decode cX0_insertWaitedFor 73 = .ok (.iastore, 1) := by decide +kernel
theorem dX0_insertWaitedFor_74 : decode cX0_insertWaitedFor 74 = .ok (.aload_n 0, 1) := by decide +kernel
theorem dX0_insertWaitedFor_75 : decode cX0_insertWaitedFor 75 = .ok (.dup, 1) := by decide +kernel
theorem dX0_insertWaitedFor_76 : decode cX0_insertWaitedFor 76 = .ok (.getfield 47, 3) := by decide +kernel
theorem dX0_insertWaitedFor_79 : decode cX0_insertWaitedFor 79 = .ok (.iconst 1, 1) := by decide +kernel
theorem dX0_insertWaitedFor_80 : decode cX0_insertWaitedFor 80 = .ok (.iadd, 1) := by decide +kernel
theorem dX0_insertWaitedFor_81 : decode cX0_insertWaitedFor 81 = .ok (.putfield 47, 3) := by decide +kernel
theorem dX0_insertWaitedFor_84 : decode cX0_insertWaitedFor 84 = .ok (.return_, 1) := by decide +kernel
set_option maxRecDepth 20000 in
theorem ggX0_holdersOf_X0_isHolder : GoodIn wsX0_holdersOf wsX0_isHolder := goodIn_r _ [6, 7, 28, 29, 30, 31, 32, 33, 34, 35, 36, 37, 38, 39, 40, 11, 12, 13, 14, 15, 16, 17, 18, 19, 20, 21, 22, 23, 24, 25, 26, 27] (by decide +kernel) (by decide +kernel)
set_option maxRecDepth 20000 in
theorem gX0_holdersOf_X0_isHolder : GoodIn wsX0_holdersOf (wsV RX0 193 RX0 yX0_isHolder wsX0_isHolder) := goodIn_app (goodIn_of _ (by decide +kernel)) ggX0_holdersOf_X0_isHolder
set_option maxRecDepth 20000 in
theorem ggX0_holdersOf_X2_bit : GoodIn wsX0_holdersOf wsX2_bit := goodIn_r _ [10] (by decide +kernel) (by decide +kernel)
set_option maxRecDepth 20000 in
theorem gX0_holdersOf_X2_bit_n107 : GoodIn wsX0_holdersOf (wsX2_bit) := ggX0_holdersOf_X2_bit
theorem dX0_holdersOf_0 : decode cX0_holdersOf 0 = .ok (.iconst 0, 1) := by decide +kernel
theorem dX0_holdersOf_1 : decode cX0_holdersOf 1 = .ok (.istore_n 2, 1) := by decide +kernel
theorem dX0_holdersOf_2 : decode cX0_holdersOf 2 = .ok (.iconst 0, 1) := by decide +kernel
theorem dX0_holdersOf_3 : decode cX0_holdersOf 3 = .ok (.istore_n 3, 1) := by decide +kernel
theorem dX0_holdersOf_4 : decode cX0_holdersOf 4 = .ok (.iload_n 3, 1) := by decide +kernel
theorem dX0_holdersOf_5 : decode cX0_holdersOf 5 = .ok (.iconst 5, 1) := by decide +kernel
theorem dX0_holdersOf_6 : decode cX0_holdersOf 6 = .ok (.if_icmp .ge 28, 3) := by decide +kernel
theorem dX0_holdersOf_9 : decode cX0_holdersOf 9 = .ok (.iload_n 2, 1) := by decide +kernel
theorem dX0_holdersOf_10 : decode cX0_holdersOf 10 = .ok (.aload_n 0, 1) := by decide +kernel
theorem dX0_holdersOf_11 : decode cX0_holdersOf 11 = .ok (.aload_n 0, 1) := by decide +kernel
theorem dX0_holdersOf_12 : decode cX0_holdersOf 12 = .ok (.getfield 22, 3) := by decide +kernel
theorem dX0_holdersOf_15 : decode cX0_holdersOf 15 = .ok (.iload_n 3, 1) := by decide +kernel
theorem dX0_holdersOf_16 : decode cX0_holdersOf 16 = .ok (.aaload, 1) := by decide +kernel
theorem dX0_holdersOf_17 : decode cX0_holdersOf 17 = .ok (.iload_n 1, 1) := by decide +kernel
theorem dX0_holdersOf_18 : decode cX0_holdersOf 18 = .ok (.invokevirtual 193, 3) := by decide +kernel
theorem dX0_holdersOf_21 : decode cX0_holdersOf 21 = .ok (.invokestatic 107, 3) := by decide +kernel
theorem dX0_holdersOf_24 : decode cX0_holdersOf 24 = .ok (.iload_n 3, 1) := by decide +kernel
theorem dX0_holdersOf_25 : decode cX0_holdersOf 25 = .ok (.ishl, 1) := by decide +kernel
theorem dX0_holdersOf_26 : decode cX0_holdersOf 26 = .ok (.ior, 1) := by decide +kernel
theorem dX0_holdersOf_27 : decode cX0_holdersOf 27 = .ok (.istore_n 2, 1) := by decide +kernel
theorem dX0_holdersOf_28 : decode cX0_holdersOf 28 = .ok (.iinc 3 1, 3) := by decide +kernel
theorem dX0_holdersOf_31 : decode cX0_holdersOf 31 = .ok (.goto (-27), 3) := by decide +kernel
theorem dX0_holdersOf_34 : decode cX0_holdersOf 34 = .ok (.iload_n 2, 1) := by decide +kernel
theorem dX0_holdersOf_35 : decode cX0_holdersOf 35 = .ok (.ireturn, 1) := by decide +kernel
set_option maxRecDepth 20000 in
theorem ggX0_readersWithCopy_X1_hasCopy : GoodIn wsX0_readersWithCopy wsX1_hasCopy := goodIn_r _ [5, 6, 27, 28, 29, 30, 31, 32, 33, 34, 35, 36, 37, 38, 39] (by decide +kernel) (by decide +kernel)
set_option maxRecDepth 20000 in
theorem gX0_readersWithCopy_X1_hasCopy_n84 : GoodIn wsX0_readersWithCopy (wsX1_hasCopy) := ggX0_readersWithCopy_X1_hasCopy
set_option maxRecDepth 20000 in
theorem ggX0_readersWithCopy_X2_bit : GoodIn wsX0_readersWithCopy wsX2_bit := goodIn_r _ [9] (by decide +kernel) (by decide +kernel)
set_option maxRecDepth 20000 in
theorem gX0_readersWithCopy_X2_bit_n107 : GoodIn wsX0_readersWithCopy (wsX2_bit) := ggX0_readersWithCopy_X2_bit
theorem dX0_readersWithCopy_0 : decode cX0_readersWithCopy 0 = .ok (.iconst 0, 1) := by decide +kernel
theorem dX0_readersWithCopy_1 : decode cX0_readersWithCopy 1 = .ok (.istore_n 2, 1) := by decide +kernel
theorem dX0_readersWithCopy_2 : decode cX0_readersWithCopy 2 = .ok (.iconst 0, 1) := by decide +kernel
theorem dX0_readersWithCopy_3 : decode cX0_readersWithCopy 3 = .ok (.istore_n 3, 1) := by decide +kernel
theorem dX0_readersWithCopy_4 : decode cX0_readersWithCopy 4 = .ok (.iload_n 3, 1) := by decide +kernel
theorem dX0_readersWithCopy_5 : decode cX0_readersWithCopy 5 = .ok (.iconst 5, 1) := by decide +kernel
theorem dX0_readersWithCopy_6 : decode cX0_readersWithCopy 6 = .ok (.if_icmp .ge 27, 3) := by decide +kernel
theorem dX0_readersWithCopy_9 : decode cX0_readersWithCopy 9 = .ok (.iload_n 2, 1) := by decide +kernel
theorem dX0_readersWithCopy_10 : decode cX0_readersWithCopy 10 = .ok (.aload_n 0, 1) := by decide +kernel
theorem dX0_readersWithCopy_11 : decode cX0_readersWithCopy 11 = .ok (.getfield 22, 3) := by decide +kernel
theorem dX0_readersWithCopy_14 : decode cX0_readersWithCopy 14 = .ok (.iload_n 3, 1) := by decide +kernel
theorem dX0_readersWithCopy_15 : decode cX0_readersWithCopy 15 = .ok (.aaload, 1) := by decide +kernel
theorem dX0_readersWithCopy_16 : decode cX0_readersWithCopy 16 = .ok (.iload_n 1, 1) := by decide +kernel
theorem dX0_readersWithCopy_17 : decode cX0_readersWithCopy 17 = .ok (.invokevirtual 84, 3) := by decide +kernel
theorem dX0_readersWithCopy_20 : decode cX0_readersWithCopy 20 = .ok (.invokestatic 107, 3) := by decide +kernel
theorem dX0_readersWithCopy_23 : decode cX0_readersWithCopy 23 = .ok (.iload_n 3, 1) := by decide +kernel
theorem dX0_readersWithCopy_24 : decode cX0_readersWithCopy 24 = .ok (.ishl, 1) := by decide +kernel
theorem dX0_readersWithCopy_25 : decode cX0_readersWithCopy 25 = .ok (.ior, 1) := by decide +kernel
theorem dX0_readersWithCopy_26 : decode cX0_readersWithCopy 26 = .ok (.istore_n 2, 1) := by decide +kernel
theorem dX0_readersWithCopy_27 : decode cX0_readersWithCopy 27 = .ok (.iinc 3 1, 3) := by decide +kernel
theorem dX0_readersWithCopy_30 : decode cX0_readersWithCopy 30 = .ok (.goto (-26), 3) := by decide +kernel
theorem dX0_readersWithCopy_33 : decode cX0_readersWithCopy 33 = .ok (.iload_n 2, 1) := by decide +kernel
theorem dX0_readersWithCopy_34 : decode cX0_readersWithCopy 34 = .ok (.ireturn, 1) := by decide +kernel
set_option maxRecDepth 20000 in
theorem ggX0_readersWithUse_X0_canUse : GoodIn wsX0_readersWithUse wsX0_canUse := goodIn_r _ [6, 7, 8, 9, 10, 11, 12, 13, 14, 5, 15, 16, 17, 18, 19, 20, 21, 22, 23, 24, 44, 45, 46, 47, 48, 49, 50, 51, 52, 53, 54, 55, 56, 27, 28, 29, 30, 31, 32, 33, 34, 35, 36, 37, 38, 39, 40, 41, 42, 43] (by decide +kernel) (by decide +kernel)
set_option maxRecDepth 20000 in
theorem gX0_readersWithUse_X0_canUse : GoodIn wsX0_readersWithUse (wsV RX0 111 RX0 yX0_canUse wsX0_canUse) := goodIn_app (goodIn_of _ (by decide +kernel)) ggX0_readersWithUse_X0_canUse
set_option maxRecDepth 20000 in
theorem ggX0_readersWithUse_X2_bit : GoodIn wsX0_readersWithUse wsX2_bit := goodIn_r _ [26] (by decide +kernel) (by decide +kernel)
set_option maxRecDepth 20000 in
theorem gX0_readersWithUse_X2_bit_n107 : GoodIn wsX0_readersWithUse (wsX2_bit) := ggX0_readersWithUse_X2_bit
theorem dX0_readersWithUse_0 : decode cX0_readersWithUse 0 = .ok (.iconst 0, 1) := by decide +kernel
theorem dX0_readersWithUse_1 : decode cX0_readersWithUse 1 = .ok (.istore_n 2, 1) := by decide +kernel
theorem dX0_readersWithUse_2 : decode cX0_readersWithUse 2 = .ok (.iconst 0, 1) := by decide +kernel
theorem dX0_readersWithUse_3 : decode cX0_readersWithUse 3 = .ok (.istore_n 3, 1) := by decide +kernel
theorem dX0_readersWithUse_4 : decode cX0_readersWithUse 4 = .ok (.iload_n 3, 1) := by decide +kernel
theorem dX0_readersWithUse_5 : decode cX0_readersWithUse 5 = .ok (.iconst 5, 1) := by decide +kernel
theorem dX0_readersWithUse_6 : decode cX0_readersWithUse 6 = .ok (.if_icmp .ge 28, 3) := by decide +kernel
theorem dX0_readersWithUse_9 : decode cX0_readersWithUse 9 = .ok (.iload_n 2, 1) := by decide +kernel
theorem dX0_readersWithUse_10 : decode cX0_readersWithUse 10 = .ok (.aload_n 0, 1) := by decide +kernel
theorem dX0_readersWithUse_11 : decode cX0_readersWithUse 11 = .ok (.aload_n 0, 1) := by decide +kernel
theorem dX0_readersWithUse_12 : decode cX0_readersWithUse 12 = .ok (.getfield 22, 3) := by decide +kernel
theorem dX0_readersWithUse_15 : decode cX0_readersWithUse 15 = .ok (.iload_n 3, 1) := by decide +kernel
theorem dX0_readersWithUse_16 : decode cX0_readersWithUse 16 = .ok (.aaload, 1) := by decide +kernel
theorem dX0_readersWithUse_17 : decode cX0_readersWithUse 17 = .ok (.iload_n 1, 1) := by decide +kernel
theorem dX0_readersWithUse_18 : decode cX0_readersWithUse 18 = .ok (.invokevirtual 111, 3) := by decide +kernel
theorem dX0_readersWithUse_21 : decode cX0_readersWithUse 21 = .ok (.invokestatic 107, 3) := by decide +kernel
theorem dX0_readersWithUse_24 : decode cX0_readersWithUse 24 = .ok (.iload_n 3, 1) := by decide +kernel
theorem dX0_readersWithUse_25 : decode cX0_readersWithUse 25 = .ok (.ishl, 1) := by decide +kernel
theorem dX0_readersWithUse_26 : decode cX0_readersWithUse 26 = .ok (.ior, 1) := by decide +kernel
theorem dX0_readersWithUse_27 : decode cX0_readersWithUse 27 = .ok (.istore_n 2, 1) := by decide +kernel
theorem dX0_readersWithUse_28 : decode cX0_readersWithUse 28 = .ok (.iinc 3 1, 3) := by decide +kernel
theorem dX0_readersWithUse_31 : decode cX0_readersWithUse 31 = .ok (.goto (-27), 3) := by decide +kernel
theorem dX0_readersWithUse_34 : decode cX0_readersWithUse 34 = .ok (.iload_n 2, 1) := by decide +kernel
theorem dX0_readersWithUse_35 : decode cX0_readersWithUse 35 = .ok (.ireturn, 1) := by decide +kernel
set_option maxRecDepth 20000 in
theorem ggX0_becomeLike_X2_copyRow : GoodIn wsX0_becomeLike wsX2_copyRow := goodIn_r _ [20, 21, 22, 23, 24, 25, 26, 27, 28] (by decide +kernel) (by decide +kernel)
set_option maxRecDepth 20000 in
theorem gX0_becomeLike_X2_copyRow_n71 : GoodIn wsX0_becomeLike (wsX2_copyRow) := ggX0_becomeLike_X2_copyRow
set_option maxRecDepth 20000 in
theorem ggX0_becomeLike_X1_becomeLike : GoodIn wsX0_becomeLike wsX1_becomeLike := goodIn_r _ [32, 33, 34, 35, 36, 37, 38, 39, 40, 41, 42, 43, 44, 45, 18, 19, 20, 21, 22, 23, 24, 25, 26, 27, 28, 63, 64, 65, 66, 67, 68, 69, 70, 71, 72, 73, 74, 75] (by decide +kernel) (by decide +kernel)
set_option maxRecDepth 20000 in
theorem gX0_becomeLike_X1_becomeLike_n222 : GoodIn wsX0_becomeLike (wsX1_becomeLike) := ggX0_becomeLike_X1_becomeLike
theorem dX0_becomeLike_0 : decode cX0_becomeLike 0 = .ok (.aload_n 0, 1) := by decide +kernel
theorem dX0_becomeLike_1 : decode cX0_becomeLike 1 = .ok (.aload_n 1, 1) := by decide +kernel
theorem dX0_becomeLike_2 : decode cX0_becomeLike 2 = .ok (.getfield 9, 3) := by decide +kernel
theorem dX0_becomeLike_5 : decode cX0_becomeLike 5 = .ok (.putfield 9, 3) := by decide +kernel
theorem dX0_becomeLike_8 : decode cX0_becomeLike 8 = .ok (.aload_n 1, 1) := by decide +kernel
theorem dX0_becomeLike_9 : decode cX0_becomeLike 9 = .ok (.getfield 15, 3) := by decide +kernel
theorem dX0_becomeLike_12 : decode cX0_becomeLike 12 = .ok (.aload_n 0, 1) := by decide +kernel
theorem dX0_becomeLike_13 : decode cX0_becomeLike 13 = .ok (.getfield 15, 3) := by decide +kernel
theorem dX0_becomeLike_16 : decode cX0_becomeLike 16 = .ok (.invokestatic 71, 3) := by decide +kernel
theorem dX0_becomeLike_19 : decode cX0_becomeLike 19 = .ok (.iconst 0, 1) := by decide +kernel
theorem dX0_becomeLike_20 : decode cX0_becomeLike 20 = .ok (.istore_n 2, 1) := by decide +kernel
theorem dX0_becomeLike_21 : decode cX0_becomeLike 21 = .ok (.iload_n 2, 1) := by decide +kernel
theorem dX0_becomeLike_22 : decode cX0_becomeLike 22 = .ok (.iconst 5, 1) := by decide +kernel
theorem dX0_becomeLike_23 : decode cX0_becomeLike 23 = .ok (.if_icmp .ge 24, 3) := by decide +kernel
theorem dX0_becomeLike_26 : decode cX0_becomeLike 26 = .ok (.aload_n 0, 1) := by decide +kernel
theorem dX0_becomeLike_27 : decode cX0_becomeLike 27 = .ok (.getfield 22, 3) := by decide +kernel
theorem dX0_becomeLike_30 : decode cX0_becomeLike 30 = .ok (.iload_n 2, 1) := by decide +kernel
theorem dX0_becomeLike_31 : decode cX0_becomeLike 31 = .ok (.aaload, 1) := by decide +kernel
theorem dX0_becomeLike_32 : decode cX0_becomeLike 32 = .ok (.aload_n 1, 1) := by decide +kernel
theorem dX0_becomeLike_33 : decode cX0_becomeLike 33 = .ok (.getfield 22, 3) := by decide +kernel
theorem dX0_becomeLike_36 : decode cX0_becomeLike 36 = .ok (.iload_n 2, 1) := by decide +kernel
theorem dX0_becomeLike_37 : decode cX0_becomeLike 37 = .ok (.aaload, 1) := by decide +kernel
theorem dX0_becomeLike_38 : decode cX0_becomeLike 38 = .ok (.invokevirtual 222, 3) := by decide +kernel
theorem dX0_becomeLike_41 : decode cX0_becomeLike 41 = .ok (.iinc 2 1, 3) := by decide +kernel
theorem dX0_becomeLike_44 : decode cX0_becomeLike 44 = .ok (.goto (-23), 3) := by decide +kernel
theorem dX0_becomeLike_47 : decode cX0_becomeLike 47 = .ok (.aload_n 1, 1) := by decide +kernel
theorem dX0_becomeLike_48 : decode cX0_becomeLike 48 = .ok (.getfield 26, 3) := by decide +kernel
theorem dX0_becomeLike_51 : decode cX0_becomeLike 51 = .ok (.aload_n 0, 1) := by decide +kernel
theorem dX0_becomeLike_52 : decode cX0_becomeLike 52 = .ok (.getfield 26, 3) := by decide +kernel
theorem dX0_becomeLike_55 : decode cX0_becomeLike 55 = .ok (.invokestatic 71, 3) := by decide +kernel
theorem dX0_becomeLike_58 : decode cX0_becomeLike 58 = .ok (.aload_n 1, 1) := by decide +kernel
theorem dX0_becomeLike_59 : decode cX0_becomeLike 59 = .ok (.getfield 29, 3) := by decide +kernel
theorem dX0_becomeLike_62 : decode cX0_becomeLike 62 = .ok (.aload_n 0, 1) := by decide +kernel
theorem dX0_becomeLike_63 : decode cX0_becomeLike 63 = .ok (.getfield 29, 3) := by decide +kernel
theorem dX0_becomeLike_66 : decode cX0_becomeLike 66 = .ok (.invokestatic 71, 3) := by decide +kernel
theorem dX0_becomeLike_69 : decode cX0_becomeLike 69 = .ok (.aload_n 1, 1) := by decide +kernel
theorem dX0_becomeLike_70 : decode cX0_becomeLike 70 = .ok (.getfield 32, 3) := by decide +kernel
theorem dX0_becomeLike_73 : decode cX0_becomeLike 73 = .ok (.aload_n 0, 1) := by decide +kernel
theorem dX0_becomeLike_74 : decode cX0_becomeLike 74 = .ok (.getfield 32, 3) := by decide +kernel
theorem dX0_becomeLike_77 : decode cX0_becomeLike 77 = .ok (.invokestatic 71, 3) := by decide +kernel
theorem dX0_becomeLike_80 : decode cX0_becomeLike 80 = .ok (.aload_n 0, 1) := by decide +kernel
theorem dX0_becomeLike_81 : decode cX0_becomeLike 81 = .ok (.aload_n 1, 1) := by decide +kernel
theorem dX0_becomeLike_82 : decode cX0_becomeLike 82 = .ok (.getfield 35, 3) := by decide +kernel
theorem dX0_becomeLike_85 : decode cX0_becomeLike 85 = .ok (.putfield 35, 3) := by decide +kernel
theorem dX0_becomeLike_88 : decode cX0_becomeLike 88 = .ok (.aload_n 1, 1) := by decide +kernel
theorem dX0_becomeLike_89 : decode cX0_becomeLike 89 = .ok (.getfield 38, 3) := by decide +kernel
theorem dX0_becomeLike_92 : decode cX0_becomeLike 92 = .ok (.aload_n 0, 1) := by decide +kernel
theorem dX0_becomeLike_93 : decode cX0_becomeLike 93 = .ok (.getfield 38, 3) := by decide +kernel
theorem dX0_becomeLike_96 : decode cX0_becomeLike 96 = .ok (.invokestatic 71, 3) := by decide +kernel
theorem dX0_becomeLike_99 : decode cX0_becomeLike 99 = .ok (.aload_n 0, 1) := by decide +kernel
theorem dX0_becomeLike_100 : decode cX0_becomeLike 100 = .ok (.aload_n 1, 1) := by decide +kernel
theorem dX0_becomeLike_101 : decode cX0_becomeLike 101 = .ok (.getfield 41, 3) := by decide +kernel
theorem dX0_becomeLike_104 : decode cX0_becomeLike 104 = .ok (.putfield 41, 3) := by decide +kernel
theorem dX0_becomeLike_107 : decode cX0_becomeLike 107 = .ok (.aload_n 1, 1) := by decide +kernel
theorem dX0_becomeLike_108 : decode cX0_becomeLike 108 = .ok (.getfield 44, 3) := by decide +kernel
theorem dX0_becomeLike_111 : decode cX0_becomeLike 111 = .ok (.aload_n 0, 1) := by decide +kernel
theorem dX0_becomeLike_112 : decode cX0_becomeLike 112 = .ok (.getfield 44, 3) := by decide +kernel
theorem dX0_becomeLike_115 : decode cX0_becomeLike 115 = .ok (.invokestatic 71, 3) := by decide +kernel
theorem dX0_becomeLike_118 : decode cX0_becomeLike 118 = .ok (.aload_n 0, 1) := by decide +kernel
theorem dX0_becomeLike_119 : decode cX0_becomeLike 119 = .ok (.aload_n 1, 1) := by decide +kernel
theorem dX0_becomeLike_120 : decode cX0_becomeLike 120 = .ok (.getfield 47, 3) := by decide +kernel
theorem dX0_becomeLike_123 : decode cX0_becomeLike 123 = .ok (.putfield 47, 3) := by decide +kernel
theorem dX0_becomeLike_126 : decode cX0_becomeLike 126 = .ok (.aload_n 0, 1) := by decide +kernel
theorem dX0_becomeLike_127 : decode cX0_becomeLike 127 = .ok (.aload_n 1, 1) := by decide +kernel
theorem dX0_becomeLike_128 : decode cX0_becomeLike 128 = .ok (.getfield 50, 3) := by decide +kernel
theorem dX0_becomeLike_131 : decode cX0_becomeLike 131 = .ok (.putfield 50, 3) := by decide +kernel
theorem dX0_becomeLike_134 : decode cX0_becomeLike 134 = .ok (.aload_n 0, 1) := by decide +kernel
theorem dX0_becomeLike_135 : decode cX0_becomeLike 135 = .ok (.aload_n 1, 1) := by decide +kernel
theorem dX0_becomeLike_136 : decode cX0_becomeLike 136 = .ok (.getfield 53, 3) := by decide +kernel
theorem dX0_becomeLike_139 : decode cX0_becomeLike 139 = .ok (.putfield 53, 3) := by decide +kernel
theorem dX0_becomeLike_142 : decode cX0_becomeLike 142 = .ok (.aload_n 0, 1) := by decide +kernel
theorem dX0_becomeLike_143 : decode cX0_becomeLike 143 = .ok (.aload_n 1, 1) := by decide +kernel
theorem dX0_becomeLike_144 : decode cX0_becomeLike 144 = .ok (.getfield 56, 3) := by decide +kernel
theorem dX0_becomeLike_147 : decode cX0_becomeLike 147 = .ok (.putfield 56, 3) := by decide +kernel
theorem dX0_becomeLike_150 : decode cX0_becomeLike 150 = .ok (.aload_n 0, 1) := by decide +kernel
theorem dX0_becomeLike_151 : decode cX0_becomeLike 151 = .ok (.aload_n 1, 1) := by decide +kernel
theorem dX0_becomeLike_152 : decode cX0_becomeLike 152 = .ok (.getfield 59, 3) := by decide +kernel
theorem dX0_becomeLike_155 : decode cX0_becomeLike 155 = .ok (.putfield 59, 3) := by decide +kernel
theorem dX0_becomeLike_158 : decode cX0_becomeLike 158 = .ok (.aload_n 0, 1) := by decide +kernel
theorem dX0_becomeLike_159 : decode cX0_becomeLike 159 = .ok (.aload_n 1, 1) := by decide +kernel
theorem dX0_becomeLike_160 : decode cX0_becomeLike 160 = .ok (.getfield 62, 3) := by decide +kernel
theorem dX0_becomeLike_163 : decode cX0_becomeLike 163 = .ok (.putfield 62, 3) := by decide +kernel
theorem dX0_becomeLike_166 : decode cX0_becomeLike 166 = .ok (.aload_n 0, 1) := by decide +kernel
theorem dX0_becomeLike_167 : decode cX0_becomeLike 167 = .ok (.aload_n 1, 1) := by decide +kernel
theorem dX0_becomeLike_168 : decode cX0_becomeLike 168 = .ok (.getfield 65, 3) := by decide +kernel
theorem dX0_becomeLike_171 : decode cX0_becomeLike 171 = .ok (.putfield 65, 3) := by decide +kernel
theorem dX0_becomeLike_174 : decode cX0_becomeLike 174 = .ok (.return_, 1) := by decide +kernel
set_option maxRecDepth 20000 in
theorem ggX1_init_J7_fill_53178 : GoodIn wsX1_init wsJ7_fill_53178 := goodIn_r _ [21] (by decide +kernel) (by decide +kernel)
set_option maxRecDepth 20000 in
theorem gX1_init_J7_fill_53178 : GoodIn wsX1_init (va_wsS RX1 53 yJ7_fill_53178 wsJ7_fill_53178) := goodIn_app (goodIn_of _ (by decide +kernel)) ggX1_init_J7_fill_53178
theorem dX1_init_0 : decode cX1_init 0 = .ok (.aload_n 0, 1) := by decide +kernel
theorem dX1_init_1 : decode cX1_init 1 = .ok (.invokespecial 3, 3) := by decide +kernel
theorem dX1_init_4 : decode cX1_init 4 = .ok (.aload_n 0, 1) := by decide +kernel
theorem dX1_init_5 : decode cX1_init 5 = .ok (.iconst 1, 1) := by decide +kernel
theorem dX1_init_6 : decode cX1_init 6 = .ok (.putfield 9, 3) := by decide +kernel
theorem dX1_init_9 : decode cX1_init 9 = .ok (.aload_n 0, 1) := by decide +kernel
theorem dX1_init_10 : decode cX1_init 10 = .ok (.iconst 0, 1) := by decide +kernel
theorem dX1_init_11 : decode cX1_init 11 = .ok (.putfield 15, 3) := by decide +kernel
theorem dX1_init_14 : decode cX1_init 14 = .ok (.aload_n 0, 1) := by decide +kernel
theorem dX1_init_15 : decode cX1_init 15 = .ok (.bipush 12, 2) := by decide +kernel
theorem dX1_init_17 : decode cX1_init 17 = .ok (.newarray .int, 2) := by decide +kernel
theorem dX1_init_19 : decode cX1_init 19 = .ok (.putfield 19, 3) := by decide +kernel
theorem dX1_init_22 : decode cX1_init 22 = .ok (.aload_n 0, 1) := by decide +kernel
theorem dX1_init_23 : decode cX1_init 23 = .ok (.bipush 12, 2) := by decide +kernel
theorem dX1_init_25 : decode cX1_init 25 = .ok (.newarray .int, 2) := by decide +kernel
theorem dX1_init_27 : decode cX1_init 27 = .ok (.putfield 23, 3) := by decide +kernel
theorem dX1_init_30 : decode cX1_init 30 = .ok (.aload_n 0, 1) := by decide +kernel
theorem dX1_init_31 : decode cX1_init 31 = .ok (.bipush 12, 2) := by decide +kernel
theorem dX1_init_33 : decode cX1_init 33 = .ok (.newarray .int, 2) := by decide +kernel
theorem dX1_init_35 : decode cX1_init 35 = .ok (.putfield 26, 3) := by decide +kernel
theorem dX1_init_38 : decode cX1_init 38 = .ok (.aload_n 0, 1) := by decide +kernel
theorem dX1_init_39 : decode cX1_init 39 = .ok (.iconst 3, 1) := by decide +kernel
theorem dX1_init_40 : decode cX1_init 40 = .ok (.newarray .int, 2) := by decide +kernel
theorem dX1_init_42 : decode cX1_init 42 = .ok (.putfield 29, 3) := by decide +kernel
theorem dX1_init_45 : decode cX1_init 45 = .ok (.aload_n 0, 1) := by decide +kernel
theorem dX1_init_46 : decode cX1_init 46 = .ok (.iconst 3, 1) := by decide +kernel
theorem dX1_init_47 : decode cX1_init 47 = .ok (.newarray .int, 2) := by decide +kernel
theorem dX1_init_49 : decode cX1_init 49 = .ok (.putfield 32, 3) := by decide +kernel
theorem dX1_init_52 : decode cX1_init 52 = .ok (.aload_n 0, 1) := by decide +kernel
theorem dX1_init_53 : decode cX1_init 53 = .ok (.bipush (-6), 2) := by decide +kernel
theorem dX1_init_55 : decode cX1_init 55 = .ok (.putfield 35, 3) := by decide +kernel
theorem dX1_init_58 : decode cX1_init 58 = .ok (.aload_n 0, 1) := by decide +kernel
theorem dX1_init_59 : decode cX1_init 59 = .ok (.iconst 0, 1) := by decide +kernel
theorem dX1_init_60 : decode cX1_init 60 = .ok (.putfield 38, 3) := by decide +kernel
theorem dX1_init_63 : decode cX1_init 63 = .ok (.aload_n 0, 1) := by decide +kernel
theorem dX1_init_64 : decode cX1_init 64 = .ok (.iconst 0, 1) := by decide +kernel
theorem dX1_init_65 : decode cX1_init 65 = .ok (.putfield 41, 3) := by decide +kernel
theorem dX1_init_68 : decode cX1_init 68 = .ok (.aload_n 0, 1) := by decide +kernel
theorem dX1_init_69 : decode cX1_init 69 = .ok (.iconst 0, 1) := by decide +kernel
theorem dX1_init_70 : decode cX1_init 70 = .ok (.putfield 44, 3) := by decide +kernel
theorem dX1_init_73 : decode cX1_init 73 = .ok (.aload_n 0, 1) := by decide +kernel
theorem dX1_init_74 : decode cX1_init 74 = .ok (.iconst 0, 1) := by decide +kernel
theorem dX1_init_75 : decode cX1_init 75 = .ok (.putfield 47, 3) := by decide +kernel
theorem dX1_init_78 : decode cX1_init 78 = .ok (.aload_n 0, 1) := by decide +kernel
theorem dX1_init_79 : decode cX1_init 79 = .ok (.iconst 0, 1) := by decide +kernel
theorem dX1_init_80 : decode cX1_init 80 = .ok (.putfield 50, 3) := by decide +kernel
theorem dX1_init_83 : decode cX1_init 83 = .ok (.aload_n 0, 1) := by decide +kernel
theorem dX1_init_84 : decode cX1_init 84 = .ok (.getfield 19, 3) := by decide +kernel
theorem dX1_init_87 : decode cX1_init 87 = .ok (.bipush (-6), 2) := by decide +kernel
theorem dX1_init_89 : decode cX1_init 89 = .ok (.invokestatic 53, 3) := by decide +kernel
theorem dX1_init_92 : decode cX1_init 92 = .ok (.return_, 1) := by decide +kernel
theorem dX1_hasCopy_0 : decode cX1_hasCopy 0 = .ok (.aload_n 0, 1) := by decide +kernel
theorem dX1_hasCopy_1 : decode cX1_hasCopy 1 = .ok (.getfield 19, 3) := by decide +kernel
theorem dX1_hasCopy_4 : decode cX1_hasCopy 4 = .ok (.iload_n 1, 1) := by decide +kernel
theorem dX1_hasCopy_5 : decode cX1_hasCopy 5 = .ok (.iaload, 1) := by decide +kernel
theorem dX1_hasCopy_6 : decode cX1_hasCopy 6 = .ok (.bipush (-6), 2) := by decide +kernel
theorem dX1_hasCopy_8 : decode cX1_hasCopy 8 = .ok (.if_icmp .eq 7, 3) := by decide +kernel
theorem dX1_hasCopy_11 : decode cX1_hasCopy 11 = .ok (.iconst 1, 1) := by decide +kernel
theorem dX1_hasCopy_12 : decode cX1_hasCopy 12 = .ok (.goto 4, 3) := by decide +kernel
theorem dX1_hasCopy_15 : decode cX1_hasCopy 15 = .ok (.iconst 0, 1) := by decide +kernel
theorem dX1_hasCopy_16 : decode cX1_hasCopy 16 = .ok (.ireturn, 1) := by decide +kernel
theorem dX1_takeCopy_0 : decode cX1_takeCopy 0 = .ok (.aload_n 0, 1) := by decide +kernel
theorem dX1_takeCopy_1 : decode cX1_takeCopy 1 = .ok (.getfield 19, 3) := by decide +kernel
theorem dX1_takeCopy_4 : decode cX1_takeCopy 4 = .ok (.iload_n 1, 1) := by decide +kernel
theorem dX1_takeCopy_5 : decode cX1_takeCopy 5 = .ok (.iload_n 2, 1) := by decide +kernel
theorem dX1_takeCopy_6 : decode cX1_takeCopy 6 = .ok (.iastore, 1) := by decide +kernel
theorem dX1_takeCopy_7 : decode cX1_takeCopy 7 = .ok (.aload_n 0, 1) := by decide +kernel
theorem dX1_takeCopy_8 : decode cX1_takeCopy 8 = .ok (.getfield 23, 3) := by decide +kernel
theorem dX1_takeCopy_11 : decode cX1_takeCopy 11 = .ok (.iload_n 1, 1) := by decide +kernel
theorem dX1_takeCopy_12 : decode cX1_takeCopy 12 = .ok (.iload_n 3, 1) := by decide +kernel
theorem dX1_takeCopy_13 : decode cX1_takeCopy 13 = .ok (.iastore, 1) := by decide +kernel
theorem dX1_takeCopy_14 : decode cX1_takeCopy 14 = .ok (.aload_n 0, 1) := by decide +kernel
theorem dX1_takeCopy_15 : decode cX1_takeCopy 15 = .ok (.getfield 26, 3) := by decide +kernel
theorem dX1_takeCopy_18 : decode cX1_takeCopy 18 = .ok (.iload_n 1, 1) := by decide +kernel
theorem dX1_takeCopy_19 : decode cX1_takeCopy 19 = .ok (.iload_n 3, 1) := by decide +kernel
theorem dX1_takeCopy_20 : decode cX1_takeCopy 20 = .ok (.iastore, 1) := by decide +kernel
theorem dX1_takeCopy_21 : decode cX1_takeCopy 21 = .ok (.return_, 1) := by decide +kernel
set_option maxRecDepth 20000 in
theorem ggX1_dropCopy_X1_takeCopy : GoodIn wsX1_dropCopy wsX1_takeCopy := goodIn_r _ [5, 6, 7, 8, 9, 10, 11, 12, 13, 14, 15, 16, 17, 18, 19, 20, 21] (by decide +kernel) (by decide +kernel)
set_option maxRecDepth 20000 in
theorem gX1_dropCopy_X1_takeCopy : GoodIn wsX1_dropCopy (wsV RX1 59 RX1 yX1_takeCopy wsX1_takeCopy) := goodIn_app (goodIn_of _ (by decide +kernel)) ggX1_dropCopy_X1_takeCopy
theorem dX1_dropCopy_0 : decode cX1_dropCopy 0 = .ok (.aload_n 0, 1) := by decide +kernel
theorem dX1_dropCopy_1 : decode cX1_dropCopy 1 = .ok (.iload_n 1, 1) := by decide +kernel
theorem dX1_dropCopy_2 : decode cX1_dropCopy 2 = .ok (.bipush (-6), 2) := by decide +kernel
theorem dX1_dropCopy_4 : decode cX1_dropCopy 4 = .ok (.iconst 0, 1) := by decide +kernel
theorem dX1_dropCopy_5 : decode cX1_dropCopy 5 = .ok (.invokevirtual 59, 3) := by decide +kernel
theorem dX1_dropCopy_8 : decode cX1_dropCopy 8 = .ok (.return_, 1) := by decide +kernel
set_option maxRecDepth 20000 in
theorem ggX1_volumeTermFor_X2_volumeOf : GoodIn wsX1_volumeTermFor wsX2_volumeOf := goodIn_r _ [4] (by decide +kernel) (by decide +kernel)
set_option maxRecDepth 20000 in
theorem gX1_volumeTermFor_X2_volumeOf_n63 : GoodIn wsX1_volumeTermFor (wsX2_volumeOf) := ggX1_volumeTermFor_X2_volumeOf
theorem dX1_volumeTermFor_0 : decode cX1_volumeTermFor 0 = .ok (.aload_n 0, 1) := by decide +kernel
theorem dX1_volumeTermFor_1 : decode cX1_volumeTermFor 1 = .ok (.getfield 29, 3) := by decide +kernel
theorem dX1_volumeTermFor_4 : decode cX1_volumeTermFor 4 = .ok (.iload_n 1, 1) := by decide +kernel
theorem dX1_volumeTermFor_5 : decode cX1_volumeTermFor 5 = .ok (.invokestatic 63, 3) := by decide +kernel
theorem dX1_volumeTermFor_8 : decode cX1_volumeTermFor 8 = .ok (.iaload, 1) := by decide +kernel
theorem dX1_volumeTermFor_9 : decode cX1_volumeTermFor 9 = .ok (.ireturn, 1) := by decide +kernel
set_option maxRecDepth 20000 in
theorem ggX1_holdsUntil_X1_volumeTermFor : GoodIn wsX1_holdsUntil wsX1_volumeTermFor := goodIn_r _ [10, 11, 12, 13, 14, 15, 16, 17, 18, 19, 20, 21, 22, 23, 24, 25, 26, 27] (by decide +kernel) (by decide +kernel)
set_option maxRecDepth 20000 in
theorem gX1_holdsUntil_X1_volumeTermFor : GoodIn wsX1_holdsUntil (wsV RX1 67 RX1 yX1_volumeTermFor wsX1_volumeTermFor) := goodIn_app (goodIn_of _ (by decide +kernel)) ggX1_holdsUntil_X1_volumeTermFor
theorem dX1_holdsUntil_0 : decode cX1_holdsUntil 0 = .ok (.aload_n 0, 1) := by decide +kernel
theorem dX1_holdsUntil_1 : decode cX1_holdsUntil 1 = .ok (.getfield 26, 3) := by decide +kernel
theorem dX1_holdsUntil_4 : decode cX1_holdsUntil 4 = .ok (.iload_n 1, 1) := by decide +kernel
theorem dX1_holdsUntil_5 : decode cX1_holdsUntil 5 = .ok (.iaload, 1) := by decide +kernel
theorem dX1_holdsUntil_6 : decode cX1_holdsUntil 6 = .ok (.aload_n 0, 1) := by decide +kernel
theorem dX1_holdsUntil_7 : decode cX1_holdsUntil 7 = .ok (.iload_n 1, 1) := by decide +kernel
theorem dX1_holdsUntil_8 : decode cX1_holdsUntil 8 = .ok (.invokevirtual 67, 3) := by decide +kernel
theorem dX1_holdsUntil_11 : decode cX1_holdsUntil 11 = .ok (.invokestatic 70, 3) := by decide +kernel
theorem dX1_holdsUntil_14 : decode cX1_holdsUntil 14 = .ok (.ireturn, 1) := by decide +kernel
set_option maxRecDepth 20000 in
theorem ggX1_becomeLike_X2_copyRow : GoodIn wsX1_becomeLike wsX2_copyRow := goodIn_r _ [16, 17, 18, 19, 20, 21, 22, 23, 24] (by decide +kernel) (by decide +kernel)
set_option maxRecDepth 20000 in
theorem gX1_becomeLike_X2_copyRow_n76 : GoodIn wsX1_becomeLike (wsX2_copyRow) := ggX1_becomeLike_X2_copyRow
theorem dX1_becomeLike_0 : decode cX1_becomeLike 0 = .ok (.aload_n 0, 1) := by decide +kernel
theorem dX1_becomeLike_1 : decode cX1_becomeLike 1 = .ok (.aload_n 1, 1) := by decide +kernel
theorem dX1_becomeLike_2 : decode cX1_becomeLike 2 = .ok (.getfield 9, 3) := by decide +kernel
theorem dX1_becomeLike_5 : decode cX1_becomeLike 5 = .ok (.putfield 9, 3) := by decide +kernel
theorem dX1_becomeLike_8 : decode cX1_becomeLike 8 = .ok (.aload_n 0, 1) := by decide +kernel
theorem dX1_becomeLike_9 : decode cX1_becomeLike 9 = .ok (.aload_n 1, 1) := by decide +kernel
theorem dX1_becomeLike_10 : decode cX1_becomeLike 10 = .ok (.getfield 15, 3) := by decide +kernel
theorem dX1_becomeLike_13 : decode cX1_becomeLike 13 = .ok (.putfield 15, 3) := by decide +kernel
theorem dX1_becomeLike_16 : decode cX1_becomeLike 16 = .ok (.aload_n 1, 1) := by decide +kernel
theorem dX1_becomeLike_17 : decode cX1_becomeLike 17 = .ok (.getfield 19, 3) := by decide +kernel
theorem dX1_becomeLike_20 : decode cX1_becomeLike 20 = .ok (.aload_n 0, 1) := by decide +kernel
theorem dX1_becomeLike_21 : decode cX1_becomeLike 21 = .ok (.getfield 19, 3) := by decide +kernel
theorem dX1_becomeLike_24 : decode cX1_becomeLike 24 = .ok (.invokestatic 76, 3) := by decide +kernel
theorem dX1_becomeLike_27 : decode cX1_becomeLike 27 = .ok (.aload_n 1, 1) := by decide +kernel
theorem dX1_becomeLike_28 : decode cX1_becomeLike 28 = .ok (.getfield 23, 3) := by decide +kernel
theorem dX1_becomeLike_31 : decode cX1_becomeLike 31 = .ok (.aload_n 0, 1) := by decide +kernel
theorem dX1_becomeLike_32 : decode cX1_becomeLike 32 = .ok (.getfield 23, 3) := by decide +kernel
theorem dX1_becomeLike_35 : decode cX1_becomeLike 35 = .ok (.invokestatic 76, 3) := by decide +kernel
theorem dX1_becomeLike_38 : decode cX1_becomeLike 38 = .ok (.aload_n 1, 1) := by decide +kernel
theorem dX1_becomeLike_39 : decode cX1_becomeLike 39 = .ok (.getfield 26, 3) := by decide +kernel
theorem dX1_becomeLike_42 : decode cX1_becomeLike 42 = .ok (.aload_n 0, 1) := by decide +kernel
theorem dX1_becomeLike_43 : decode cX1_becomeLike 43 = .ok (.getfield 26, 3) := by decide +kernel
theorem dX1_becomeLike_46 : decode cX1_becomeLike 46 = .ok (.invokestatic 76, 3) := by decide +kernel
theorem dX1_becomeLike_49 : decode cX1_becomeLike 49 = .ok (.aload_n 1, 1) := by decide +kernel
theorem dX1_becomeLike_50 : decode cX1_becomeLike 50 = .ok (.getfield 29, 3) := by decide +kernel
theorem dX1_becomeLike_53 : decode cX1_becomeLike 53 = .ok (.aload_n 0, 1) := by decide +kernel
theorem dX1_becomeLike_54 : decode cX1_becomeLike 54 = .ok (.getfield 29, 3) := by decide +kernel
theorem dX1_becomeLike_57 : decode cX1_becomeLike 57 = .ok (.invokestatic 76, 3) := by decide +kernel
theorem dX1_becomeLike_60 : decode cX1_becomeLike 60 = .ok (.aload_n 1, 1) := by decide +kernel
theorem dX1_becomeLike_61 : decode cX1_becomeLike 61 = .ok (.getfield 32, 3) := by decide +kernel
theorem dX1_becomeLike_64 : decode cX1_becomeLike 64 = .ok (.aload_n 0, 1) := by decide +kernel
theorem dX1_becomeLike_65 : decode cX1_becomeLike 65 = .ok (.getfield 32, 3) := by decide +kernel
theorem dX1_becomeLike_68 : decode cX1_becomeLike 68 = .ok (.invokestatic 76, 3) := by decide +kernel
theorem dX1_becomeLike_71 : decode cX1_becomeLike 71 = .ok (.aload_n 0, 1) := by decide +kernel
theorem dX1_becomeLike_72 : decode cX1_becomeLike 72 = .ok (.aload_n 1, 1) := by decide +kernel
theorem dX1_becomeLike_73 : decode cX1_becomeLike 73 = .ok (.getfield 35, 3) := by decide +kernel
theorem dX1_becomeLike_76 : decode cX1_becomeLike 76 = .ok (.putfield 35, 3) := by decide +kernel
theorem dX1_becomeLike_79 : decode cX1_becomeLike 79 = .ok (.aload_n 0, 1) := by decide +kernel
theorem dX1_becomeLike_80 : decode cX1_becomeLike 80 = .ok (.aload_n 1, 1) := by decide +kernel
theorem dX1_becomeLike_81 : decode cX1_becomeLike 81 = .ok (.getfield 38, 3) := by decide +kernel
theorem dX1_becomeLike_84 : decode cX1_becomeLike 84 = .ok (.putfield 38, 3) := by decide +kernel
theorem dX1_becomeLike_87 : decode cX1_becomeLike 87 = .ok (.aload_n 0, 1) := by decide +kernel
theorem dX1_becomeLike_88 : decode cX1_becomeLike 88 = .ok (.aload_n 1, 1) := by decide +kernel
theorem dX1_becomeLike_89 : decode cX1_becomeLike 89 = .ok (.getfield 41, 3) := by decide +kernel
theorem dX1_becomeLike_92 : decode cX1_becomeLike 92 = .ok (.putfield 41, 3) := by decide +kernel
theorem dX1_becomeLike_95 : decode cX1_becomeLike 95 = .ok (.aload_n 0, 1) := by decide +kernel
theorem dX1_becomeLike_96 : decode cX1_becomeLike 96 = .ok (.aload_n 1, 1) := by decide +kernel
theorem dX1_becomeLike_97 : decode cX1_becomeLike 97 = .ok (.getfield 44, 3) := by decide +kernel
theorem dX1_becomeLike_100 : decode cX1_becomeLike 100 = .ok (.putfield 44, 3) := by decide +kernel
theorem dX1_becomeLike_103 : decode cX1_becomeLike 103 = .ok (.aload_n 0, 1) := by decide +kernel
theorem dX1_becomeLike_104 : decode cX1_becomeLike 104 = .ok (.aload_n 1, 1) := by decide +kernel
theorem dX1_becomeLike_105 : decode cX1_becomeLike 105 = .ok (.getfield 47, 3) := by decide +kernel
theorem dX1_becomeLike_108 : decode cX1_becomeLike 108 = .ok (.putfield 47, 3) := by decide +kernel
theorem dX1_becomeLike_111 : decode cX1_becomeLike 111 = .ok (.aload_n 0, 1) := by decide +kernel
theorem dX1_becomeLike_112 : decode cX1_becomeLike 112 = .ok (.aload_n 1, 1) := by decide +kernel
theorem dX1_becomeLike_113 : decode cX1_becomeLike 113 = .ok (.getfield 50, 3) := by decide +kernel
theorem dX1_becomeLike_116 : decode cX1_becomeLike 116 = .ok (.putfield 50, 3) := by decide +kernel
theorem dX1_becomeLike_119 : decode cX1_becomeLike 119 = .ok (.return_, 1) := by decide +kernel
set_option maxRecDepth 20000 in
theorem ggX2_init_X0_init : GoodIn wsX2_init wsX0_init := goodIn_r _ [11, 12, 2, 3, 13, 14, 15, 16, 17, 18, 19, 20, 21, 22, 23, 24, 25, 26, 27, 28, 29, 30, 31, 32, 33, 34, 35, 36, 37, 38, 39, 40, 41, 42, 43, 44, 45, 46, 47, 48, 49, 50, 51, 52, 53, 54, 55, 56, 57, 58, 59, 60, 61, 62, 63, 64, 65, 66, 67, 68, 69, 70, 71, 72, 73, 74, 75, 76, 77, 78, 79, 80, 81, 82, 86, 87, 88, 89, 90, 91, 92, 93, 94, 95, 96, 97, 98] (by decide +kernel) (by decide +kernel)
set_option maxRecDepth 20000 in
theorem gX2_init_X0_init_n9 : GoodIn wsX2_init (wsX0_init) := ggX2_init_X0_init
theorem dX2_init_0 : decode cX2_init 0 = .ok (.aload_n 0, 1) := by decide +kernel
theorem dX2_init_1 : decode cX2_init 1 = .ok (.invokespecial 1, 3) := by decide +kernel
theorem dX2_init_4 : decode cX2_init 4 = .ok (.aload_n 0, 1) := by decide +kernel
theorem dX2_init_5 : decode cX2_init 5 = .ok (.new 7, 3) := by decide +kernel
theorem dX2_init_8 : decode cX2_init 8 = .ok (.dup, 1) := by decide +kernel
theorem dX2_init_9 : decode cX2_init 9 = .ok (.invokespecial 9, 3) := by decide +kernel
theorem dX2_init_12 : decode cX2_init 12 = .ok (.putfield 10, 3) := by decide +kernel
theorem dX2_init_15 : decode cX2_init 15 = .ok (.aload_n 0, 1) := by decide +kernel
theorem dX2_init_16 : decode cX2_init 16 = .ok (.iconst 2, 1) := by decide +kernel
theorem dX2_init_17 : decode cX2_init 17 = .ok (.anewarray 7, 3) := by decide +kernel
theorem dX2_init_20 : decode cX2_init 20 = .ok (.dup, 1) := by decide +kernel
theorem dX2_init_21 : decode cX2_init 21 = .ok (.iconst 0, 1) := by decide +kernel
theorem dX2_init_22 : decode cX2_init 22 = .ok (.new 7, 3) := by decide +kernel
theorem dX2_init_25 : decode cX2_init 25 = .ok (.dup, 1) := by decide +kernel
theorem dX2_init_26 : decode cX2_init 26 = .ok (.invokespecial 9, 3) := by decide +kernel
theorem dX2_init_29 : decode cX2_init 29 = .ok (.aastore, 1) := by decide +kernel
theorem dX2_init_30 : decode cX2_init 30 = .ok (.dup, 1) := by decide +kernel
theorem dX2_init_31 : decode cX2_init 31 = .ok (.iconst 1, 1) := by decide +kernel
theorem dX2_init_32 : decode cX2_init 32 = .ok (.new 7, 3) := by decide +kernel
theorem dX2_init_35 : decode cX2_init 35 = .ok (.dup, 1) := by decide +kernel
theorem dX2_init_36 : decode cX2_init 36 = .ok (.invokespecial 9, 3) := by decide +kernel
theorem dX2_init_39 : decode cX2_init 39 = .ok (.aastore, 1) := by decide +kernel
theorem dX2_init_40 : decode cX2_init 40 = .ok (.putfield 16, 3) := by decide +kernel
theorem dX2_init_43 : decode cX2_init 43 = .ok (.aload_n 0, 1) := by decide +kernel
theorem dX2_init_44 : decode cX2_init 44 = .ok (.iconst 0, 1) := by decide +kernel
theorem dX2_init_45 : decode cX2_init 45 = .ok (.putfield 20, 3) := by decide +kernel
theorem dX2_init_48 : decode cX2_init 48 = .ok (.return_, 1) := by decide +kernel
theorem dX2_rule_0 : decode cX2_rule 0 = .ok (.iload_n 1, 1) := by decide +kernel
theorem dX2_rule_1 : decode cX2_rule 1 = .ok (.ifCond .lt 8, 3) := by decide +kernel
theorem dX2_rule_4 : decode cX2_rule 4 = .ok (.iload_n 1, 1) := by decide +kernel
theorem dX2_rule_5 : decode cX2_rule 5 = .ok (.iconst 4, 1) := by decide +kernel
theorem dX2_rule_6 : decode cX2_rule 6 = .ok (.if_icmp .lt 6, 3) := by decide +kernel
theorem dX2_rule_9 : decode cX2_rule 9 = .ok (.bipush (-2), 2) := by decide +kernel
theorem dX2_rule_11 : decode cX2_rule 11 = .ok (.ireturn, 1) := by decide +kernel
theorem dX2_rule_12 : decode cX2_rule 12 = .ok (.iload_n 2, 1) := by decide +kernel
theorem dX2_rule_13 : decode cX2_rule 13 = .ok (.getstatic 24, 3) := by decide +kernel
theorem dX2_rule_16 : decode cX2_rule 16 = .ok (.iload_n 1, 1) := by decide +kernel
theorem dX2_rule_17 : decode cX2_rule 17 = .ok (.iaload, 1) := by decide +kernel
theorem dX2_rule_18 : decode cX2_rule 18 = .ok (.if_icmp .lt 12, 3) := by decide +kernel
theorem dX2_rule_21 : decode cX2_rule 21 = .ok (.iload_n 2, 1) := by decide +kernel
theorem dX2_rule_22 : decode cX2_rule 22 = .ok (.getstatic 28, 3) := by decide +kernel
theorem dX2_rule_25 : decode cX2_rule 25 = .ok (.iload_n 1, 1) := by decide +kernel
theorem dX2_rule_26 : decode cX2_rule 26 = .ok (.iaload, 1) := by decide +kernel
theorem dX2_rule_27 : decode cX2_rule 27 = .ok (.if_icmp .le 6, 3) := by decide +kernel
theorem dX2_rule_30 : decode cX2_rule 30 = .ok (.bipush (-2), 2) := by decide +kernel
theorem dX2_rule_32 : decode cX2_rule 32 = .ok (.ireturn, 1) := by decide +kernel
theorem dX2_rule_33 : decode cX2_rule 33 = .ok (.aload_n 0, 1) := by decide +kernel
theorem dX2_rule_34 : decode cX2_rule 34 = .ok (.getfield 10, 3) := by decide +kernel
theorem dX2_rule_37 : decode cX2_rule 37 = .ok (.getfield 31, 3) := by decide +kernel
theorem dX2_rule_40 : decode cX2_rule 40 = .ok (.iload_n 1, 1) := by decide +kernel
theorem dX2_rule_41 : decode cX2_rule 41 = .ok (.iaload, 1) := by decide +kernel
theorem dX2_rule_42 : decode cX2_rule 42 = .ok (.istore_n 3, 1) := by decide +kernel
theorem dX2_rule_43 : decode cX2_rule 43 = .ok (.aload_n 0, 1) := by decide +kernel
theorem dX2_rule_44 : decode cX2_rule 44 = .ok (.getfield 10, 3) := by decide +kernel
theorem dX2_rule_47 : decode cX2_rule 47 = .ok (.getfield 31, 3) := by decide +kernel
theorem dX2_rule_50 : decode cX2_rule 50 = .ok (.iload_n 1, 1) := by decide +kernel
theorem dX2_rule_51 : decode cX2_rule 51 = .ok (.iload_n 2, 1) := by decide +kernel
theorem dX2_rule_52 : decode cX2_rule 52 = .ok (.iastore, 1) := by decide +kernel
theorem dX2_rule_53 : decode cX2_rule 53 = .ok (.iload_n 3, 1) := by decide +kernel
theorem dX2_rule_54 : decode cX2_rule 54 = .ok (.ireturn, 1) := by decide +kernel
set_option maxRecDepth 20000 in
theorem ggX2_skew_X2_isReader : GoodIn wsX2_skew wsX2_isReader := goodIn_r _ [5] (by decide +kernel) (by decide +kernel)
set_option maxRecDepth 20000 in
theorem gX2_skew_X2_isReader : GoodIn wsX2_skew (va_wsS RX2 34 yX2_isReader wsX2_isReader) := goodIn_app (goodIn_of _ (by decide +kernel)) ggX2_skew_X2_isReader
set_option maxRecDepth 20000 in
theorem ggX2_skew_X0_countSkewedBeyondDoubt : GoodIn wsX2_skew wsX0_countSkewedBeyondDoubt := goodIn_r _ [9, 10, 11, 12, 13, 14, 15, 16, 4, 17, 21, 22, 23, 24, 25, 26, 27, 28, 29, 30, 31, 32, 33, 34, 35, 36, 37, 38, 39, 40, 41, 42, 43, 44, 45, 46, 47, 48, 49, 50] (by decide +kernel) (by decide +kernel)
set_option maxRecDepth 20000 in
theorem gX2_skew_X0_countSkewedBeyondDoubt_n47 : GoodIn wsX2_skew (wsX0_countSkewedBeyondDoubt) := ggX2_skew_X0_countSkewedBeyondDoubt
theorem dX2_skew_0 : decode cX2_skew 0 = .ok (.iload_n 1, 1) := by decide +kernel
theorem dX2_skew_1 : decode cX2_skew 1 = .ok (.invokestatic 34, 3) := by decide +kernel
theorem dX2_skew_4 : decode cX2_skew 4 = .ok (.ifCond .ne 5, 3) := by decide +kernel
theorem dX2_skew_7 : decode cX2_skew 7 = .ok (.iconst (-1), 1) := by decide +kernel
theorem dX2_skew_8 : decode cX2_skew 8 = .ok (.ireturn, 1) := by decide +kernel
theorem dX2_skew_9 : decode cX2_skew 9 = .ok (.iload_n 2, 1) := by decide +kernel
theorem dX2_skew_10 : decode cX2_skew 10 = .ok (.bipush (-20), 2) := by decide +kernel
theorem dX2_skew_12 : decode cX2_skew 12 = .ok (.if_icmp .lt 9, 3) := by decide +kernel
theorem dX2_skew_15 : decode cX2_skew 15 = .ok (.iload_n 2, 1) := by decide +kernel
theorem dX2_skew_16 : decode cX2_skew 16 = .ok (.bipush 20, 2) := by decide +kernel
theorem dX2_skew_18 : decode cX2_skew 18 = .ok (.if_icmp .le 6, 3) := by decide +kernel
theorem dX2_skew_21 : decode cX2_skew 21 = .ok (.bipush (-2), 2) := by decide +kernel
theorem dX2_skew_23 : decode cX2_skew 23 = .ok (.ireturn, 1) := by decide +kernel
theorem dX2_skew_24 : decode cX2_skew 24 = .ok (.aload_n 0, 1) := by decide +kernel
theorem dX2_skew_25 : decode cX2_skew 25 = .ok (.getfield 10, 3) := by decide +kernel
theorem dX2_skew_28 : decode cX2_skew 28 = .ok (.getfield 38, 3) := by decide +kernel
theorem dX2_skew_31 : decode cX2_skew 31 = .ok (.iload_n 1, 1) := by decide +kernel
theorem dX2_skew_32 : decode cX2_skew 32 = .ok (.aaload, 1) := by decide +kernel
theorem dX2_skew_33 : decode cX2_skew 33 = .ok (.iload_n 2, 1) := by decide +kernel
theorem dX2_skew_34 : decode cX2_skew 34 = .ok (.putfield 42, 3) := by decide +kernel
theorem dX2_skew_37 : decode cX2_skew 37 = .ok (.aload_n 0, 1) := by decide +kernel
theorem dX2_skew_38 : decode cX2_skew 38 = .ok (.getfield 10, 3) := by decide +kernel
theorem dX2_skew_41 : decode cX2_skew 41 = .ok (.invokevirtual 47, 3) := by decide +kernel
theorem dX2_skew_44 : decode cX2_skew 44 = .ok (.ireturn, 1) := by decide +kernel
set_option maxRecDepth 20000 in
theorem ggX2_there_X2_isReader : GoodIn wsX2_there wsX2_isReader := goodIn_r _ [5] (by decide +kernel) (by decide +kernel)
set_option maxRecDepth 20000 in
theorem gX2_there_X2_isReader : GoodIn wsX2_there (va_wsS RX2 34 yX2_isReader wsX2_isReader) := goodIn_app (goodIn_of _ (by decide +kernel)) ggX2_there_X2_isReader
set_option maxRecDepth 20000 in
theorem ggX2_there_X0_settleAll : GoodIn wsX2_there wsX0_settleAll := goodIn_r _ [9, 10, 11, 12, 13, 14, 7, 15, 16, 17, 18, 19, 20, 21, 22, 23, 24, 25, 26, 27, 28, 29, 30, 31, 32, 33, 34, 4, 35, 36, 37, 38, 39, 40, 41, 42, 43, 44, 45, 46, 47, 48, 49, 50, 51, 52, 53, 54, 55, 56, 57, 58, 59, 60, 61, 62, 63, 67, 68, 69, 70, 71, 72, 73, 74, 75, 76, 77, 78, 79, 80, 81, 82, 83, 84, 85, 86, 87, 88, 89, 90, 91, 92, 93, 94, 95, 96] (by decide +kernel) (by decide +kernel)
set_option maxRecDepth 20000 in
theorem gX2_there_X0_settleAll_n55 : GoodIn wsX2_there (wsX0_settleAll) := ggX2_there_X0_settleAll
theorem dX2_there_0 : decode cX2_there 0 = .ok (.iload_n 1, 1) := by decide +kernel
theorem dX2_there_1 : decode cX2_there 1 = .ok (.invokestatic 34, 3) := by decide +kernel
theorem dX2_there_4 : decode cX2_there 4 = .ok (.ifCond .ne 5, 3) := by decide +kernel
theorem dX2_there_7 : decode cX2_there 7 = .ok (.iconst (-1), 1) := by decide +kernel
theorem dX2_there_8 : decode cX2_there 8 = .ok (.ireturn, 1) := by decide +kernel
theorem dX2_there_9 : decode cX2_there 9 = .ok (.iload_n 2, 1) := by decide +kernel
theorem dX2_there_10 : decode cX2_there 10 = .ok (.ifCond .eq 11, 3) := by decide +kernel
theorem dX2_there_13 : decode cX2_there 13 = .ok (.iload_n 2, 1) := by decide +kernel
theorem dX2_there_14 : decode cX2_there 14 = .ok (.iconst 1, 1) := by decide +kernel
theorem dX2_there_15 : decode cX2_there 15 = .ok (.if_icmp .eq 6, 3) := by decide +kernel
theorem dX2_there_18 : decode cX2_there 18 = .ok (.bipush (-2), 2) := by decide +kernel
theorem dX2_there_20 : decode cX2_there 20 = .ok (.ireturn, 1) := by decide +kernel
theorem dX2_there_21 : decode cX2_there 21 = .ok (.aload_n 0, 1) := by decide +kernel
theorem dX2_there_22 : decode cX2_there 22 = .ok (.getfield 10, 3) := by decide +kernel
theorem dX2_there_25 : decode cX2_there 25 = .ok (.getfield 38, 3) := by decide +kernel
theorem dX2_there_28 : decode cX2_there 28 = .ok (.iload_n 1, 1) := by decide +kernel
theorem dX2_there_29 : decode cX2_there 29 = .ok (.aaload, 1) := by decide +kernel
theorem dX2_there_30 : decode cX2_there 30 = .ok (.astore_n 3, 1) := by decide +kernel
theorem dX2_there_31 : decode cX2_there 31 = .ok (.iload_n 2, 1) := by decide +kernel
theorem dX2_there_32 : decode cX2_there 32 = .ok (.iconst 1, 1) := by decide +kernel
theorem dX2_there_33 : decode cX2_there 33 = .ok (.if_icmp .ne 14, 3) := by decide +kernel
theorem dX2_there_36 : decode cX2_there 36 = .ok (.aload_n 3, 1) := by decide +kernel
theorem dX2_there_37 : decode cX2_there 37 = .ok (.getfield 51, 3) := by decide +kernel
theorem dX2_there_40 : decode cX2_there 40 = .ok (.ifCond .ne 7, 3) := by decide +kernel
theorem dX2_there_43 : decode cX2_there 43 = .ok (.iconst 1, 1) := by decide +kernel
theorem dX2_there_44 : decode cX2_there 44 = .ok (.goto 4, 3) := by decide +kernel
theorem dX2_there_47 : decode cX2_there 47 = .ok (.iconst 0, 1) := by decide +kernel
theorem dX2_there_48 : decode cX2_there 48 = .ok (.istore 4, 2) := by decide +kernel
theorem dX2_there_50 : decode cX2_there 50 = .ok (.aload_n 3, 1) := by decide +kernel
theorem dX2_there_51 : decode cX2_there 51 = .ok (.iload_n 2, 1) := by decide +kernel
theorem dX2_there_52 : decode cX2_there 52 = .ok (.iconst 1, 1) := by decide +kernel
theorem dX2_there_53 : decode cX2_there 53 = .ok (.if_icmp .ne 7, 3) := by decide +kernel
theorem dX2_there_56 : decode cX2_there 56 = .ok (.iconst 1, 1) := by decide +kernel
theorem dX2_there_57 : decode cX2_there 57 = .ok (.goto 4, 3) := by decide +kernel
theorem dX2_there_60 : decode cX2_there 60 = .ok (.iconst 0, 1) := by decide +kernel
theorem dX2_there_61 : decode cX2_there 61 = .ok (.putfield 51, 3) := by decide +kernel
theorem dX2_there_64 : decode cX2_there 64 = .ok (.iload 4, 2) := by decide +kernel
theorem dX2_there_66 : decode cX2_there 66 = .ok (.ifCond .eq 13, 3) := by decide +kernel
theorem dX2_there_69 : decode cX2_there 69 = .ok (.aload_n 0, 1) := by decide +kernel
theorem dX2_there_70 : decode cX2_there 70 = .ok (.getfield 10, 3) := by decide +kernel
theorem dX2_there_73 : decode cX2_there 73 = .ok (.invokevirtual 55, 3) := by decide +kernel
theorem dX2_there_76 : decode cX2_there 76 = .ok (.goto 4, 3) := by decide +kernel
theorem dX2_there_79 : decode cX2_there 79 = .ok (.iconst 0, 1) := by decide +kernel
theorem dX2_there_80 : decode cX2_there 80 = .ok (.ireturn, 1) := by decide +kernel
set_option maxRecDepth 20000 in
theorem ggX2_read_X2_isReader : GoodIn wsX2_read wsX2_isReader := goodIn_r _ [5] (by decide +kernel) (by decide +kernel)
set_option maxRecDepth 20000 in
theorem gX2_read_X2_isReader : GoodIn wsX2_read (va_wsS RX2 34 yX2_isReader wsX2_isReader) := goodIn_app (goodIn_of _ (by decide +kernel)) ggX2_read_X2_isReader
set_option maxRecDepth 20000 in
theorem ggX2_read_X2_isThing : GoodIn wsX2_read wsX2_isThing := goodIn_r _ [8] (by decide +kernel) (by decide +kernel)
set_option maxRecDepth 20000 in
theorem gX2_read_X2_isThing : GoodIn wsX2_read (va_wsS RX2 58 yX2_isThing wsX2_isThing) := goodIn_app (goodIn_of _ (by decide +kernel)) ggX2_read_X2_isThing
set_option maxRecDepth 20000 in
theorem ggX2_read_X0_readBy : GoodIn wsX2_read wsX0_readBy := goodIn_r _ [12, 13, 14, 15, 10, 16, 17, 18, 19, 20, 21, 22, 23, 24, 25, 26, 27, 28, 29, 30, 31, 32, 4, 33, 34, 35, 36, 37, 38, 39, 40, 41, 42, 43, 44, 45, 46, 47, 48, 49, 50, 51, 52, 53, 54, 55, 56, 57, 58, 59, 60, 61, 62, 63, 64, 65, 66, 67, 68, 69, 70, 71, 72, 73, 74, 75, 76, 77, 78, 79, 80, 101, 102, 103, 104, 105, 106, 107, 108, 109, 110, 111, 112, 113, 84, 85, 86, 87, 88, 89, 90, 91, 92, 93, 94, 95, 96, 97, 98, 99, 100] (by decide +kernel) (by decide +kernel)
set_option maxRecDepth 20000 in
theorem gX2_read_X0_readBy_n61 : GoodIn wsX2_read (wsX0_readBy) := ggX2_read_X0_readBy
theorem dX2_read_0 : decode cX2_read 0 = .ok (.iload_n 1, 1) := by decide +kernel
theorem dX2_read_1 : decode cX2_read 1 = .ok (.invokestatic 34, 3) := by decide +kernel
theorem dX2_read_4 : decode cX2_read 4 = .ok (.ifCond .eq 10, 3) := by decide +kernel
theorem dX2_read_7 : decode cX2_read 7 = .ok (.iload_n 2, 1) := by decide +kernel
theorem dX2_read_8 : decode cX2_read 8 = .ok (.invokestatic 58, 3) := by decide +kernel
theorem dX2_read_11 : decode cX2_read 11 = .ok (.ifCond .ne 5, 3) := by decide +kernel
theorem dX2_read_14 : decode cX2_read 14 = .ok (.iconst (-1), 1) := by decide +kernel
theorem dX2_read_15 : decode cX2_read 15 = .ok (.ireturn, 1) := by decide +kernel
theorem dX2_read_16 : decode cX2_read 16 = .ok (.aload_n 0, 1) := by decide +kernel
theorem dX2_read_17 : decode cX2_read 17 = .ok (.getfield 10, 3) := by decide +kernel
theorem dX2_read_20 : decode cX2_read 20 = .ok (.aload_n 0, 1) := by decide +kernel
theorem dX2_read_21 : decode cX2_read 21 = .ok (.getfield 10, 3) := by decide +kernel
