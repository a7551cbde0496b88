theorem dX2_read_24 : decode cX2_read 24 = .ok (.getfield 38, 3) := by decide +kernel
theorem dX2_read_27 : decode cX2_read 27 = .ok (.iload_n 1, 1) := by decide +kernel
theorem dX2_read_28 : decode cX2_read 28 = .ok (.aaload, 1) := by decide +kernel
theorem dX2_read_29 : decode cX2_read 29 = .ok (.iload_n 2, 1) := by decide +kernel
theorem dX2_read_30 : decode cX2_read 30 = .ok (.invokevirtual 61, 3) := by decide +kernel
theorem dX2_read_33 : decode cX2_read 33 = .ok (.ireturn, 1) := by decide +kernel
set_option maxRecDepth 20000 in
theorem ggX2_write_X2_isThing : GoodIn wsX2_write wsX2_isThing := goodIn_r _ [5] (by decide +kernel) (by decide +kernel)
set_option maxRecDepth 20000 in
theorem gX2_write_X2_isThing : GoodIn wsX2_write (va_wsS RX2 58 yX2_isThing wsX2_isThing) := goodIn_app (goodIn_of _ (by decide +kernel)) ggX2_write_X2_isThing
set_option maxRecDepth 20000 in
theorem ggX2_write_X0_isWaiting : GoodIn wsX2_write wsX0_isWaiting := goodIn_r _ [9, 10, 100, 101, 102, 103, 104, 105, 106, 107, 108, 109, 110, 111, 112, 113, 114, 115, 116] (by decide +kernel) (by decide +kernel)
set_option maxRecDepth 20000 in
theorem gX2_write_X0_isWaiting_n65 : GoodIn wsX2_write (wsX0_isWaiting) := ggX2_write_X0_isWaiting
set_option maxRecDepth 20000 in
theorem ggX2_write_X0_tellWrite : GoodIn wsX2_write wsX0_tellWrite := goodIn_r _ [13, 14, 10, 15, 16, 17, 18, 7, 19, 20, 21, 22, 23, 24, 25, 26, 27, 28, 29, 30, 31, 32, 33, 34, 35, 36, 4, 37, 38, 39, 40, 41, 42, 43, 44, 45, 46, 47, 48, 49, 50, 51, 52, 53, 54, 55, 56, 57, 58, 59, 60, 61, 62, 63, 64, 65, 66, 67, 68, 69, 70, 71, 72, 73, 74, 75, 76, 77, 78, 79, 80, 81, 82, 83, 84, 85, 86, 87, 88, 89, 90, 91, 92, 93, 94, 95, 96, 100, 101, 102, 103, 104, 105, 106, 107, 108, 109, 110, 111, 112, 113, 114, 115, 116, 117, 118, 119, 120, 121, 122, 123, 124, 125, 126, 127, 128, 129] (by decide +kernel) (by decide +kernel)
set_option maxRecDepth 20000 in
theorem gX2_write_X0_tellWrite_n68 : GoodIn wsX2_write (wsX0_tellWrite) := ggX2_write_X0_tellWrite
theorem dX2_write_0 : decode cX2_write 0 = .ok (.iload_n 1, 1) := by decide +kernel
theorem dX2_write_1 : decode cX2_write 1 = .ok (.invokestatic 58, 3) := by decide +kernel
theorem dX2_write_4 : decode cX2_write 4 = .ok (.ifCond .ne 5, 3) := by decide +kernel
theorem dX2_write_7 : decode cX2_write 7 = .ok (.iconst (-1), 1) := by decide +kernel
theorem dX2_write_8 : decode cX2_write 8 = .ok (.ireturn, 1) := by decide +kernel
theorem dX2_write_9 : decode cX2_write 9 = .ok (.iload_n 2, 1) := by decide +kernel
theorem dX2_write_10 : decode cX2_write 10 = .ok (.ifCond .eq 11, 3) := by decide +kernel
theorem dX2_write_13 : decode cX2_write 13 = .ok (.iload_n 2, 1) := by decide +kernel
theorem dX2_write_14 : decode cX2_write 14 = .ok (.iconst 1, 1) := by decide +kernel
theorem dX2_write_15 : decode cX2_write 15 = .ok (.if_icmp .eq 6, 3) := by decide +kernel
theorem dX2_write_18 : decode cX2_write 18 = .ok (.bipush (-2), 2) := by decide +kernel
theorem dX2_write_20 : decode cX2_write 20 = .ok (.ireturn, 1) := by decide +kernel
theorem dX2_write_21 : decode cX2_write 21 = .ok (.aload_n 0, 1) := by decide +kernel
theorem dX2_write_22 : decode cX2_write 22 = .ok (.getfield 10, 3) := by decide +kernel
theorem dX2_write_25 : decode cX2_write 25 = .ok (.iload_n 1, 1) := by decide +kernel
theorem dX2_write_26 : decode cX2_write 26 = .ok (.invokevirtual 65, 3) := by decide +kernel
theorem dX2_write_29 : decode cX2_write 29 = .ok (.ifCond .eq 6, 3) := by decide +kernel
theorem dX2_write_32 : decode cX2_write 32 = .ok (.bipush (-5), 2) := by decide +kernel
theorem dX2_write_34 : decode cX2_write 34 = .ok (.ireturn, 1) := by decide +kernel
theorem dX2_write_35 : decode cX2_write 35 = .ok (.aload_n 0, 1) := by decide +kernel
theorem dX2_write_36 : decode cX2_write 36 = .ok (.getfield 10, 3) := by decide +kernel
theorem dX2_write_39 : decode cX2_write 39 = .ok (.iload_n 1, 1) := by decide +kernel
theorem dX2_write_40 : decode cX2_write 40 = .ok (.iload_n 2, 1) := by decide +kernel
theorem dX2_write_41 : decode cX2_write 41 = .ok (.invokevirtual 68, 3) := by decide +kernel
theorem dX2_write_44 : decode cX2_write 44 = .ok (.ireturn, 1) := by decide +kernel
set_option maxRecDepth 20000 in
theorem ggX2_pass_X0_settleAll : GoodIn wsX2_pass wsX0_settleAll := goodIn_r _ [5, 6, 7, 8, 9, 10, 3, 11, 12, 13, 14, 15, 16, 17, 18, 19, 20, 21, 22, 23, 24, 25, 26, 27, 28, 29, 30, 31, 32, 33, 34, 35, 36, 37, 38, 39, 40, 41, 42, 43, 44, 45, 46, 47, 48, 49, 50, 51, 52, 53, 54, 55, 56, 57, 58, 59, 60, 64, 65, 66, 67, 68, 69, 70, 71, 72, 73, 74, 75, 76, 77, 78, 79, 80, 81, 82, 83, 84, 85, 86, 87, 88, 89, 90, 91, 92, 93] (by decide +kernel) (by decide +kernel)
set_option maxRecDepth 20000 in
theorem gX2_pass_X0_settleAll_n55 : GoodIn wsX2_pass (wsX0_settleAll) := ggX2_pass_X0_settleAll
theorem dX2_pass_0 : decode cX2_pass 0 = .ok (.iload_n 1, 1) := by decide +kernel
theorem dX2_pass_1 : decode cX2_pass 1 = .ok (.iconst 1, 1) := by decide +kernel
theorem dX2_pass_2 : decode cX2_pass 2 = .ok (.if_icmp .lt 9, 3) := by decide +kernel
theorem dX2_pass_5 : decode cX2_pass 5 = .ok (.iload_n 1, 1) := by decide +kernel
theorem dX2_pass_6 : decode cX2_pass 6 = .ok (.bipush 100, 2) := by decide +kernel
theorem dX2_pass_8 : decode cX2_pass 8 = .ok (.if_icmp .le 6, 3) := by decide +kernel
theorem dX2_pass_11 : decode cX2_pass 11 = .ok (.bipush (-2), 2) := by decide +kernel
theorem dX2_pass_13 : decode cX2_pass 13 = .ok (.ireturn, 1) := by decide +kernel
theorem dX2_pass_14 : decode cX2_pass 14 = .ok (.iconst 0, 1) := by decide +kernel
theorem dX2_pass_15 : decode cX2_pass 15 = .ok (.istore_n 2, 1) := by decide +kernel
theorem dX2_pass_16 : decode cX2_pass 16 = .ok (.iconst 0, 1) := by decide +kernel
theorem dX2_pass_17 : decode cX2_pass 17 = .ok (.istore_n 3, 1) := by decide +kernel
theorem dX2_pass_18 : decode cX2_pass 18 = .ok (.iload_n 3, 1) := by decide +kernel
theorem dX2_pass_19 : decode cX2_pass 19 = .ok (.iload_n 1, 1) := by decide +kernel
theorem dX2_pass_20 : decode cX2_pass 20 = .ok (.if_icmp .ge 32, 3) := by decide +kernel
theorem dX2_pass_23 : decode cX2_pass 23 = .ok (.aload_n 0, 1) := by decide +kernel
theorem dX2_pass_24 : decode cX2_pass 24 = .ok (.getfield 10, 3) := by decide +kernel
theorem dX2_pass_27 : decode cX2_pass 27 = .ok (.dup, 1) := by decide +kernel
theorem dX2_pass_28 : decode cX2_pass 28 = .ok (.getfield 72, 3) := by decide +kernel
theorem dX2_pass_31 : decode cX2_pass 31 = .ok (.iconst 1, 1) := by decide +kernel
theorem dX2_pass_32 : decode cX2_pass 32 = .ok (.iadd, 1) := by decide +kernel
theorem dX2_pass_33 : decode cX2_pass 33 = .ok (.putfield 72, 3) := by decide +kernel
theorem dX2_pass_36 : decode cX2_pass 36 = .ok (.iload_n 2, 1) := by decide +kernel
theorem dX2_pass_37 : decode cX2_pass 37 = .ok (.aload_n 0, 1) := by decide +kernel
theorem dX2_pass_38 : decode cX2_pass 38 = .ok (.getfield 10, 3) := by decide +kernel
theorem dX2_pass_41 : decode cX2_pass 41 = .ok (.invokevirtual 55, 3) := by decide +kernel
theorem dX2_pass_44 : decode cX2_pass 44 = .ok (.iadd, 1) := by decide +kernel
theorem dX2_pass_45 : decode cX2_pass 45 = .ok (.istore_n 2, 1) := by decide +kernel
theorem dX2_pass_46 : decode cX2_pass 46 = .ok (.iinc 3 1, 3) := by decide +kernel
theorem dX2_pass_49 : decode cX2_pass 49 = .ok (.goto (-31), 3) := by decide +kernel
theorem dX2_pass_52 : decode cX2_pass 52 = .ok (.iload_n 2, 1) := by decide +kernel
theorem dX2_pass_53 : decode cX2_pass 53 = .ok (.ireturn, 1) := by decide +kernel
theorem dX2_cause_0 : decode cX2_cause 0 = .ok (.iload_n 1, 1) := by decide +kernel
theorem dX2_cause_1 : decode cX2_cause 1 = .ok (.ifCond .lt 26, 3) := by decide +kernel
theorem dX2_cause_4 : decode cX2_cause 4 = .ok (.iload_n 1, 1) := by decide +kernel
theorem dX2_cause_5 : decode cX2_cause 5 = .ok (.aload_n 0, 1) := by decide +kernel
theorem dX2_cause_6 : decode cX2_cause 6 = .ok (.getfield 10, 3) := by decide +kernel
theorem dX2_cause_9 : decode cX2_cause 9 = .ok (.getfield 75, 3) := by decide +kernel
theorem dX2_cause_12 : decode cX2_cause 12 = .ok (.if_icmp .ge 15, 3) := by decide +kernel
theorem dX2_cause_15 : decode cX2_cause 15 = .ok (.aload_n 0, 1) := by decide +kernel
theorem dX2_cause_16 : decode cX2_cause 16 = .ok (.getfield 10, 3) := by decide +kernel
theorem dX2_cause_19 : decode cX2_cause 19 = .ok (.getfield 78, 3) := by decide +kernel
theorem dX2_cause_22 : decode cX2_cause 22 = .ok (.iload_n 1, 1) := by decide +kernel
theorem dX2_cause_23 : decode cX2_cause 23 = .ok (.iaload, 1) := by decide +kernel
theorem dX2_cause_24 : decode cX2_cause 24 = .ok (.goto 5, 3) := by decide +kernel
theorem dX2_cause_27 : decode cX2_cause 27 = .ok (.bipush (-6), 2) := by decide +kernel
theorem dX2_cause_29 : decode cX2_cause 29 = .ok (.ireturn, 1) := by decide +kernel
theorem dX2_waited_0 : decode cX2_waited 0 = .ok (.iload_n 1, 1) := by decide +kernel
theorem dX2_waited_1 : decode cX2_waited 1 = .ok (.ifCond .lt 26, 3) := by decide +kernel
theorem dX2_waited_4 : decode cX2_waited 4 = .ok (.iload_n 1, 1) := by decide +kernel
theorem dX2_waited_5 : decode cX2_waited 5 = .ok (.aload_n 0, 1) := by decide +kernel
theorem dX2_waited_6 : decode cX2_waited 6 = .ok (.getfield 10, 3) := by decide +kernel
theorem dX2_waited_9 : decode cX2_waited 9 = .ok (.getfield 81, 3) := by decide +kernel
theorem dX2_waited_12 : decode cX2_waited 12 = .ok (.if_icmp .ge 15, 3) := by decide +kernel
theorem dX2_waited_15 : decode cX2_waited 15 = .ok (.aload_n 0, 1) := by decide +kernel
theorem dX2_waited_16 : decode cX2_waited 16 = .ok (.getfield 10, 3) := by decide +kernel
theorem dX2_waited_19 : decode cX2_waited 19 = .ok (.getfield 84, 3) := by decide +kernel
theorem dX2_waited_22 : decode cX2_waited 22 = .ok (.iload_n 1, 1) := by decide +kernel
theorem dX2_waited_23 : decode cX2_waited 23 = .ok (.iaload, 1) := by decide +kernel
theorem dX2_waited_24 : decode cX2_waited 24 = .ok (.goto 5, 3) := by decide +kernel
theorem dX2_waited_27 : decode cX2_waited 27 = .ok (.bipush (-6), 2) := by decide +kernel
theorem dX2_waited_29 : decode cX2_waited 29 = .ok (.ireturn, 1) := by decide +kernel
set_option maxRecDepth 20000 in
theorem ggX2_thing_X2_isThing : GoodIn wsX2_thing wsX2_isThing := goodIn_r _ [5] (by decide +kernel) (by decide +kernel)
set_option maxRecDepth 20000 in
theorem gX2_thing_X2_isThing : GoodIn wsX2_thing (va_wsS RX2 58 yX2_isThing wsX2_isThing) := goodIn_app (goodIn_of _ (by decide +kernel)) ggX2_thing_X2_isThing
set_option maxRecDepth 20000 in
theorem ggX2_thing_X0_isWaiting : GoodIn wsX2_thing wsX0_isWaiting := goodIn_r _ [9, 10, 67, 68, 69, 70, 71, 72, 73, 74, 75, 76, 77, 78, 79, 80, 81, 82, 83] (by decide +kernel) (by decide +kernel)
set_option maxRecDepth 20000 in
theorem gX2_thing_X0_isWaiting_n65 : GoodIn wsX2_thing (wsX0_isWaiting) := ggX2_thing_X0_isWaiting
set_option maxRecDepth 20000 in
theorem ggX2_thing_X2_bit : GoodIn wsX2_thing wsX2_bit := goodIn_r _ [13] (by decide +kernel) (by decide +kernel)
set_option maxRecDepth 20000 in
theorem gX2_thing_X2_bit : GoodIn wsX2_thing (va_wsS RX2 90 yX2_bit wsX2_bit) := goodIn_app (goodIn_of _ (by decide +kernel)) ggX2_thing_X2_bit
set_option maxRecDepth 20000 in
theorem ggX2_thing_X0_dueOf : GoodIn wsX2_thing wsX0_dueOf := goodIn_r _ [16, 17, 18, 19, 20, 21, 22, 23, 24, 25, 7, 26, 27, 28, 29, 30, 31, 32, 33, 34, 35, 36, 37, 38, 39, 40, 4, 41, 67, 68, 69, 70, 71, 72, 73, 74, 75, 76, 77, 78, 79, 80, 81, 82, 83, 84, 85, 86, 87, 88, 89, 90, 91, 92, 93, 94, 95, 96] (by decide +kernel) (by decide +kernel)
set_option maxRecDepth 20000 in
theorem gX2_thing_X0_dueOf_n97 : GoodIn wsX2_thing (wsX0_dueOf) := ggX2_thing_X0_dueOf
set_option maxRecDepth 20000 in
theorem ggX2_thing_X0_holdersOf : GoodIn wsX2_thing wsX0_holdersOf := goodIn_r _ [44, 18, 23, 24, 25, 7, 26, 17, 12, 4, 13, 67, 68, 69, 70, 71, 72, 73, 74, 75, 76, 77, 78, 79, 80, 81, 82, 83, 84, 85, 86, 87, 88, 89, 90, 91, 92, 93, 94, 95, 96] (by decide +kernel) (by decide +kernel)
set_option maxRecDepth 20000 in
theorem gX2_thing_X0_holdersOf_n101 : GoodIn wsX2_thing (wsX0_holdersOf) := ggX2_thing_X0_holdersOf
set_option maxRecDepth 20000 in
theorem ggX2_thing_X0_readersWithCopy : GoodIn wsX2_thing wsX0_readersWithCopy := goodIn_r _ [47, 18, 48, 28, 49, 50, 51, 12, 4, 13, 67, 68, 69, 70, 71, 72, 73, 74, 75, 76, 77, 78, 79, 80, 81, 82, 83, 84, 85, 86, 87, 88, 89, 90, 91, 92, 93, 94, 95, 96] (by decide +kernel) (by decide +kernel)
set_option maxRecDepth 20000 in
theorem gX2_thing_X0_readersWithCopy_n104 : GoodIn wsX2_thing (wsX0_readersWithCopy) := ggX2_thing_X0_readersWithCopy
set_option maxRecDepth 20000 in
theorem ggX2_thing_X0_readersWithUse : GoodIn wsX2_thing wsX0_readersWithUse := goodIn_r _ [54, 18, 55, 56, 57, 7, 58, 48, 28, 49, 50, 51, 59, 60, 61, 62, 17, 63, 36, 37, 38, 39, 40, 4, 41, 12, 13, 67, 68, 69, 70, 71, 72, 73, 74, 75, 76, 77, 78, 79, 80, 81, 82, 83, 84, 85, 86, 87, 88, 89, 90, 91, 92, 93, 94, 95, 96] (by decide +kernel) (by decide +kernel)
set_option maxRecDepth 20000 in
theorem gX2_thing_X0_readersWithUse_n107 : GoodIn wsX2_thing (wsX0_readersWithUse) := ggX2_thing_X0_readersWithUse
theorem dX2_thing_0 : decode cX2_thing 0 = .ok (.iload_n 1, 1) := by decide +kernel
theorem dX2_thing_1 : decode cX2_thing 1 = .ok (.invokestatic 58, 3) := by decide +kernel
theorem dX2_thing_4 : decode cX2_thing 4 = .ok (.ifCond .ne 5, 3) := by decide +kernel
theorem dX2_thing_7 : decode cX2_thing 7 = .ok (.iconst (-1), 1) := by decide +kernel
theorem dX2_thing_8 : decode cX2_thing 8 = .ok (.ireturn, 1) := by decide +kernel
theorem dX2_thing_9 : decode cX2_thing 9 = .ok (.iload_n 2, 1) := by decide +kernel
theorem dX2_thing_10 : decode cX2_thing 10 = .ok (.tableswitch 126 0 6 #[42, 52, 64, 74, 99, 108, 117], 42) := by decide +kernel
theorem dX2_thing_52 : decode cX2_thing 52 = .ok (.aload_n 0, 1) := by decide +kernel
theorem dX2_thing_53 : decode cX2_thing 53 = .ok (.getfield 10, 3) := by decide +kernel
theorem dX2_thing_56 : decode cX2_thing 56 = .ok (.getfield 87, 3) := by decide +kernel
theorem dX2_thing_59 : decode cX2_thing 59 = .ok (.iload_n 1, 1) := by decide +kernel
theorem dX2_thing_60 : decode cX2_thing 60 = .ok (.iaload, 1) := by decide +kernel
theorem dX2_thing_61 : decode cX2_thing 61 = .ok (.ireturn, 1) := by decide +kernel
theorem dX2_thing_62 : decode cX2_thing 62 = .ok (.aload_n 0, 1) := by decide +kernel
theorem dX2_thing_63 : decode cX2_thing 63 = .ok (.getfield 10, 3) := by decide +kernel
theorem dX2_thing_66 : decode cX2_thing 66 = .ok (.iload_n 1, 1) := by decide +kernel
theorem dX2_thing_67 : decode cX2_thing 67 = .ok (.invokevirtual 65, 3) := by decide +kernel
theorem dX2_thing_70 : decode cX2_thing 70 = .ok (.invokestatic 90, 3) := by decide +kernel
theorem dX2_thing_73 : decode cX2_thing 73 = .ok (.ireturn, 1) := by decide +kernel
theorem dX2_thing_74 : decode cX2_thing 74 = .ok (.aload_n 0, 1) := by decide +kernel
theorem dX2_thing_75 : decode cX2_thing 75 = .ok (.getfield 10, 3) := by decide +kernel
theorem dX2_thing_78 : decode cX2_thing 78 = .ok (.getfield 94, 3) := by decide +kernel
theorem dX2_thing_81 : decode cX2_thing 81 = .ok (.iload_n 1, 1) := by decide +kernel
theorem dX2_thing_82 : decode cX2_thing 82 = .ok (.iaload, 1) := by decide +kernel
theorem dX2_thing_83 : decode cX2_thing 83 = .ok (.ireturn, 1) := by decide +kernel
theorem dX2_thing_84 : decode cX2_thing 84 = .ok (.aload_n 0, 1) := by decide +kernel
theorem dX2_thing_85 : decode cX2_thing 85 = .ok (.getfield 10, 3) := by decide +kernel
theorem dX2_thing_88 : decode cX2_thing 88 = .ok (.iload_n 1, 1) := by decide +kernel
theorem dX2_thing_89 : decode cX2_thing 89 = .ok (.invokevirtual 65, 3) := by decide +kernel
theorem dX2_thing_92 : decode cX2_thing 92 = .ok (.ifCond .eq 14, 3) := by decide +kernel
theorem dX2_thing_95 : decode cX2_thing 95 = .ok (.aload_n 0, 1) := by decide +kernel
theorem dX2_thing_96 : decode cX2_thing 96 = .ok (.getfield 10, 3) := by decide +kernel
theorem dX2_thing_99 : decode cX2_thing 99 = .ok (.iload_n 1, 1) := by decide +kernel
theorem dX2_thing_100 : decode cX2_thing 100 = .ok (.invokevirtual 97, 3) := by decide +kernel
theorem dX2_thing_103 : decode cX2_thing 103 = .ok (.goto 5, 3) := by decide +kernel
theorem dX2_thing_106 : decode cX2_thing 106 = .ok (.bipush (-6), 2) := by decide +kernel
theorem dX2_thing_108 : decode cX2_thing 108 = .ok (.ireturn, 1) := by decide +kernel
theorem dX2_thing_109 : decode cX2_thing 109 = .ok (.aload_n 0, 1) := by decide +kernel
theorem dX2_thing_110 : decode cX2_thing 110 = .ok (.getfield 10, 3) := by decide +kernel
theorem dX2_thing_113 : decode cX2_thing 113 = .ok (.iload_n 1, 1) := by decide +kernel
theorem dX2_thing_114 : decode cX2_thing 114 = .ok (.invokevirtual 101, 3) := by decide +kernel
theorem dX2_thing_117 : decode cX2_thing 117 = .ok (.ireturn, 1) := by decide +kernel
theorem dX2_thing_118 : decode cX2_thing 118 = .ok (.aload_n 0, 1) := by decide +kernel
theorem dX2_thing_119 : decode cX2_thing 119 = .ok (.getfield 10, 3) := by decide +kernel
theorem dX2_thing_122 : decode cX2_thing 122 = .ok (.iload_n 1, 1) := by decide +kernel
theorem dX2_thing_123 : decode cX2_thing 123 = .ok (.invokevirtual 104, 3) := by decide +kernel
theorem dX2_thing_126 : decode cX2_thing 126 = .ok (.ireturn, 1) := by decide +kernel
theorem dX2_thing_127 : decode cX2_thing 127 = .ok (.aload_n 0, 1) := by decide +kernel
theorem dX2_thing_128 : decode cX2_thing 128 = .ok (.getfield 10, 3) := by decide +kernel
theorem dX2_thing_131 : decode cX2_thing 131 = .ok (.iload_n 1, 1) := by decide +kernel
theorem dX2_thing_132 : decode cX2_thing 132 = .ok (.invokevirtual 107, 3) := by decide +kernel
theorem dX2_thing_135 : decode cX2_thing 135 = .ok (.ireturn, 1) := by decide +kernel
theorem dX2_thing_136 : decode cX2_thing 136 = .ok (.bipush (-2), 2) := by decide +kernel
theorem dX2_thing_138 : decode cX2_thing 138 = .ok (.ireturn, 1) := by decide +kernel
set_option maxRecDepth 20000 in
theorem ggX2_copy_X2_isReader : GoodIn wsX2_copy wsX2_isReader := goodIn_r _ [5] (by decide +kernel) (by decide +kernel)
set_option maxRecDepth 20000 in
theorem gX2_copy_X2_isReader : GoodIn wsX2_copy (va_wsS RX2 34 yX2_isReader wsX2_isReader) := goodIn_app (goodIn_of _ (by decide +kernel)) ggX2_copy_X2_isReader
set_option maxRecDepth 20000 in
theorem ggX2_copy_X2_isThing : GoodIn wsX2_copy wsX2_isThing := goodIn_r _ [8] (by decide +kernel) (by decide +kernel)
set_option maxRecDepth 20000 in
theorem gX2_copy_X2_isThing : GoodIn wsX2_copy (va_wsS RX2 58 yX2_isThing wsX2_isThing) := goodIn_app (goodIn_of _ (by decide +kernel)) ggX2_copy_X2_isThing
set_option maxRecDepth 20000 in
theorem ggX2_copy_X0_canUse : GoodIn wsX2_copy wsX0_canUse := goodIn_r _ [12, 13, 14, 15, 16, 17, 18, 19, 20, 10, 21, 22, 23, 24, 25, 26, 27, 28, 4, 29, 53, 54, 55, 56, 57, 58, 59, 60, 61, 62, 63, 64, 65, 36, 37, 38, 39, 40, 41, 42, 43, 44, 45, 46, 47, 48, 49, 50, 51, 52] (by decide +kernel) (by decide +kernel)
set_option maxRecDepth 20000 in
theorem gX2_copy_X0_canUse_n119 : GoodIn wsX2_copy (wsX0_canUse) := ggX2_copy_X0_canUse
set_option maxRecDepth 20000 in
theorem ggX2_copy_X2_bit : GoodIn wsX2_copy wsX2_bit := goodIn_r _ [32] (by decide +kernel) (by decide +kernel)
set_option maxRecDepth 20000 in
theorem gX2_copy_X2_bit : GoodIn wsX2_copy (va_wsS RX2 90 yX2_bit wsX2_bit) := goodIn_app (goodIn_of _ (by decide +kernel)) ggX2_copy_X2_bit
theorem dX2_copy_0 : decode cX2_copy 0 = .ok (.iload_n 1, 1) := by decide +kernel
theorem dX2_copy_1 : decode cX2_copy 1 = .ok (.invokestatic 34, 3) := by decide +kernel
theorem dX2_copy_4 : decode cX2_copy 4 = .ok (.ifCond .eq 10, 3) := by decide +kernel
theorem dX2_copy_7 : decode cX2_copy 7 = .ok (.iload_n 2, 1) := by decide +kernel
theorem dX2_copy_8 : decode cX2_copy 8 = .ok (.invokestatic 58, 3) := by decide +kernel
theorem dX2_copy_11 : decode cX2_copy 11 = .ok (.ifCond .ne 5, 3) := by decide +kernel
theorem dX2_copy_14 : decode cX2_copy 14 = .ok (.iconst (-1), 1) := by decide +kernel
theorem dX2_copy_15 : decode cX2_copy 15 = .ok (.ireturn, 1) := by decide +kernel
theorem dX2_copy_16 : decode cX2_copy 16 = .ok (.aload_n 0, 1) := by decide +kernel
theorem dX2_copy_17 : decode cX2_copy 17 = .ok (.getfield 10, 3) := by decide +kernel
theorem dX2_copy_20 : decode cX2_copy 20 = .ok (.getfield 38, 3) := by decide +kernel
theorem dX2_copy_23 : decode cX2_copy 23 = .ok (.iload_n 1, 1) := by decide +kernel
theorem dX2_copy_24 : decode cX2_copy 24 = .ok (.aaload, 1) := by decide +kernel
theorem dX2_copy_25 : decode cX2_copy 25 = .ok (.astore 4, 2) := by decide +kernel
theorem dX2_copy_27 : decode cX2_copy 27 = .ok (.iload_n 3, 1) := by decide +kernel
theorem dX2_copy_28 : decode cX2_copy 28 = .ok (.tableswitch 70 0 3 #[32, 40, 48, 56], 32) := by decide +kernel
theorem dX2_copy_60 : decode cX2_copy 60 = .ok (.aload 4, 2) := by decide +kernel
theorem dX2_copy_62 : decode cX2_copy 62 = .ok (.getfield 110, 3) := by decide +kernel
theorem dX2_copy_65 : decode cX2_copy 65 = .ok (.iload_n 2, 1) := by decide +kernel
theorem dX2_copy_66 : decode cX2_copy 66 = .ok (.iaload, 1) := by decide +kernel
theorem dX2_copy_67 : decode cX2_copy 67 = .ok (.ireturn, 1) := by decide +kernel
theorem dX2_copy_68 : decode cX2_copy 68 = .ok (.aload 4, 2) := by decide +kernel
theorem dX2_copy_70 : decode cX2_copy 70 = .ok (.getfield 113, 3) := by decide +kernel
theorem dX2_copy_73 : decode cX2_copy 73 = .ok (.iload_n 2, 1) := by decide +kernel
theorem dX2_copy_74 : decode cX2_copy 74 = .ok (.iaload, 1) := by decide +kernel
theorem dX2_copy_75 : decode cX2_copy 75 = .ok (.ireturn, 1) := by decide +kernel
theorem dX2_copy_76 : decode cX2_copy 76 = .ok (.aload 4, 2) := by decide +kernel
theorem dX2_copy_78 : decode cX2_copy 78 = .ok (.getfield 116, 3) := by decide +kernel
theorem dX2_copy_81 : decode cX2_copy 81 = .ok (.iload_n 2, 1) := by decide +kernel
theorem dX2_copy_82 : decode cX2_copy 82 = .ok (.iaload, 1) := by decide +kernel
theorem dX2_copy_83 : decode cX2_copy 83 = .ok (.ireturn, 1) := by decide +kernel
theorem dX2_copy_84 : decode cX2_copy 84 = .ok (.aload_n 0, 1) := by decide +kernel
theorem dX2_copy_85 : decode cX2_copy 85 = .ok (.getfield 10, 3) := by decide +kernel
theorem dX2_copy_88 : decode cX2_copy 88 = .ok (.aload 4, 2) := by decide +kernel
theorem dX2_copy_90 : decode cX2_copy 90 = .ok (.iload_n 2, 1) := by decide +kernel
theorem dX2_copy_91 : decode cX2_copy 91 = .ok (.invokevirtual 119, 3) := by decide +kernel
theorem dX2_copy_94 : decode cX2_copy 94 = .ok (.invokestatic 90, 3) := by decide +kernel
theorem dX2_copy_97 : decode cX2_copy 97 = .ok (.ireturn, 1) := by decide +kernel
theorem dX2_copy_98 : decode cX2_copy 98 = .ok (.bipush (-2), 2) := by decide +kernel
theorem dX2_copy_100 : decode cX2_copy 100 = .ok (.ireturn, 1) := by decide +kernel
set_option maxRecDepth 20000 in
theorem ggX2_volume_X2_isReader : GoodIn wsX2_volume wsX2_isReader := goodIn_r _ [5] (by decide +kernel) (by decide +kernel)
set_option maxRecDepth 20000 in
theorem gX2_volume_X2_isReader : GoodIn wsX2_volume (va_wsS RX2 34 yX2_isReader wsX2_isReader) := goodIn_app (goodIn_of _ (by decide +kernel)) ggX2_volume_X2_isReader
set_option maxRecDepth 20000 in
theorem ggX2_volume_X0_isOver : GoodIn wsX2_volume wsX0_isOver := goodIn_r _ [9, 10, 11, 18, 19, 20, 21, 22, 23, 24, 25, 26, 27, 28, 29, 30, 31, 32, 33, 34, 35, 36, 37, 38, 39, 40, 41, 42, 43, 44, 45, 46, 47] (by decide +kernel) (by decide +kernel)
set_option maxRecDepth 20000 in
theorem gX2_volume_X0_isOver_n126 : GoodIn wsX2_volume (wsX0_isOver) := ggX2_volume_X0_isOver
set_option maxRecDepth 20000 in
theorem ggX2_volume_X2_bit : GoodIn wsX2_volume wsX2_bit := goodIn_r _ [14] (by decide +kernel) (by decide +kernel)
set_option maxRecDepth 20000 in
theorem gX2_volume_X2_bit : GoodIn wsX2_volume (va_wsS RX2 90 yX2_bit wsX2_bit) := goodIn_app (goodIn_of _ (by decide +kernel)) ggX2_volume_X2_bit
theorem dX2_volume_0 : decode cX2_volume 0 = .ok (.iload_n 1, 1) := by decide +kernel
theorem dX2_volume_1 : decode cX2_volume 1 = .ok (.invokestatic 34, 3) := by decide +kernel
theorem dX2_volume_4 : decode cX2_volume 4 = .ok (.ifCond .eq 12, 3) := by decide +kernel
theorem dX2_volume_7 : decode cX2_volume 7 = .ok (.iload_n 2, 1) := by decide +kernel
theorem dX2_volume_8 : decode cX2_volume 8 = .ok (.ifCond .lt 8, 3) := by decide +kernel
theorem dX2_volume_11 : decode cX2_volume 11 = .ok (.iload_n 2, 1) := by decide +kernel
theorem dX2_volume_12 : decode cX2_volume 12 = .ok (.iconst 3, 1) := by decide +kernel
theorem dX2_volume_13 : decode cX2_volume 13 = .ok (.if_icmp .lt 5, 3) := by decide +kernel
theorem dX2_volume_16 : decode cX2_volume 16 = .ok (.iconst (-1), 1) := by decide +kernel
theorem dX2_volume_17 : decode cX2_volume 17 = .ok (.ireturn, 1) := by decide +kernel
theorem dX2_volume_18 : decode cX2_volume 18 = .ok (.aload_n 0, 1) := by decide +kernel
theorem dX2_volume_19 : decode cX2_volume 19 = .ok (.getfield 10, 3) := by decide +kernel
theorem dX2_volume_22 : decode cX2_volume 22 = .ok (.getfield 38, 3) := by decide +kernel
theorem dX2_volume_25 : decode cX2_volume 25 = .ok (.iload_n 1, 1) := by decide +kernel
theorem dX2_volume_26 : decode cX2_volume 26 = .ok (.aaload, 1) := by decide +kernel
theorem dX2_volume_27 : decode cX2_volume 27 = .ok (.astore 4, 2) := by decide +kernel
theorem dX2_volume_29 : decode cX2_volume 29 = .ok (.iload_n 3, 1) := by decide +kernel
theorem dX2_volume_30 : decode cX2_volume 30 = .ok (.tableswitch 62 0 2 #[26, 34, 54], 26) := by decide +kernel
theorem dX2_volume_56 : decode cX2_volume 56 = .ok (.aload 4, 2) := by decide +kernel
theorem dX2_volume_58 : decode cX2_volume 58 = .ok (.getfield 123, 3) := by decide +kernel
theorem dX2_volume_61 : decode cX2_volume 61 = .ok (.iload_n 2, 1) := by decide +kernel
theorem dX2_volume_62 : decode cX2_volume 62 = .ok (.iaload, 1) := by decide +kernel
theorem dX2_volume_63 : decode cX2_volume 63 = .ok (.ireturn, 1) := by decide +kernel
theorem dX2_volume_64 : decode cX2_volume 64 = .ok (.aload_n 0, 1) := by decide +kernel
theorem dX2_volume_65 : decode cX2_volume 65 = .ok (.getfield 10, 3) := by decide +kernel
theorem dX2_volume_68 : decode cX2_volume 68 = .ok (.aload 4, 2) := by decide +kernel
theorem dX2_volume_70 : decode cX2_volume 70 = .ok (.aload 4, 2) := by decide +kernel
theorem dX2_volume_72 : decode cX2_volume 72 = .ok (.getfield 123, 3) := by decide +kernel
theorem dX2_volume_75 : decode cX2_volume 75 = .ok (.iload_n 2, 1) := by decide +kernel
theorem dX2_volume_76 : decode cX2_volume 76 = .ok (.iaload, 1) := by decide +kernel
theorem dX2_volume_77 : decode cX2_volume 77 = .ok (.invokevirtual 126, 3) := by decide +kernel
theorem dX2_volume_80 : decode cX2_volume 80 = .ok (.invokestatic 90, 3) := by decide +kernel
theorem dX2_volume_83 : decode cX2_volume 83 = .ok (.ireturn, 1) := by decide +kernel
theorem dX2_volume_84 : decode cX2_volume 84 = .ok (.aload 4, 2) := by decide +kernel
theorem dX2_volume_86 : decode cX2_volume 86 = .ok (.getfield 129, 3) := by decide +kernel
theorem dX2_volume_89 : decode cX2_volume 89 = .ok (.iload_n 2, 1) := by decide +kernel
theorem dX2_volume_90 : decode cX2_volume 90 = .ok (.iaload, 1) := by decide +kernel
theorem dX2_volume_91 : decode cX2_volume 91 = .ok (.ireturn, 1) := by decide +kernel
theorem dX2_volume_92 : decode cX2_volume 92 = .ok (.bipush (-2), 2) := by decide +kernel
theorem dX2_volume_94 : decode cX2_volume 94 = .ok (.ireturn, 1) := by decide +kernel
set_option maxRecDepth 20000 in
theorem ggX2_reader_X2_isReader : GoodIn wsX2_reader wsX2_isReader := goodIn_r _ [5] (by decide +kernel) (by decide +kernel)
set_option maxRecDepth 20000 in
theorem gX2_reader_X2_isReader : GoodIn wsX2_reader (va_wsS RX2 34 yX2_isReader wsX2_isReader) := goodIn_app (goodIn_of _ (by decide +kernel)) ggX2_reader_X2_isReader
set_option maxRecDepth 20000 in
theorem ggX2_reader_X2_bit : GoodIn wsX2_reader wsX2_bit := goodIn_r _ [8] (by decide +kernel) (by decide +kernel)
set_option maxRecDepth 20000 in
theorem gX2_reader_X2_bit : GoodIn wsX2_reader (va_wsS RX2 90 yX2_bit wsX2_bit) := goodIn_app (goodIn_of _ (by decide +kernel)) ggX2_reader_X2_bit
theorem dX2_reader_0 : decode cX2_reader 0 = .ok (.iload_n 1, 1) := by decide +kernel
theorem dX2_reader_1 : decode cX2_reader 1 = .ok (.invokestatic 34, 3) := by decide +kernel
theorem dX2_reader_4 : decode cX2_reader 4 = .ok (.ifCond .ne 5, 3) := by decide +kernel
theorem dX2_reader_7 : decode cX2_reader 7 = .ok (.iconst (-1), 1) := by decide +kernel
theorem dX2_reader_8 : decode cX2_reader 8 = .ok (.ireturn, 1) := by decide +kernel
theorem dX2_reader_9 : decode cX2_reader 9 = .ok (.aload_n 0, 1) := by decide +kernel
theorem dX2_reader_10 : decode cX2_reader 10 = .ok (.getfield 10, 3) := by decide +kernel
theorem dX2_reader_13 : decode cX2_reader 13 = .ok (.getfield 38, 3) := by decide +kernel
theorem dX2_reader_16 : decode cX2_reader 16 = .ok (.iload_n 1, 1) := by decide +kernel
theorem dX2_reader_17 : decode cX2_reader 17 = .ok (.aaload, 1) := by decide +kernel
theorem dX2_reader_18 : decode cX2_reader 18 = .ok (.astore_n 3, 1) := by decide +kernel
theorem dX2_reader_19 : decode cX2_reader 19 = .ok (.iload_n 2, 1) := by decide +kernel
theorem dX2_reader_20 : decode cX2_reader 20 = .ok (.tableswitch 94 0 7 #[48, 56, 64, 69, 74, 79, 84, 89], 48) := by decide +kernel
theorem dX2_reader_68 : decode cX2_reader 68 = .ok (.aload_n 3, 1) := by decide +kernel
theorem dX2_reader_69 : decode cX2_reader 69 = .ok (.getfield 51, 3) := by decide +kernel
theorem dX2_reader_72 : decode cX2_reader 72 = .ok (.invokestatic 90, 3) := by decide +kernel
theorem dX2_reader_75 : decode cX2_reader 75 = .ok (.ireturn, 1) := by decide +kernel
theorem dX2_reader_76 : decode cX2_reader 76 = .ok (.aload_n 3, 1) := by decide +kernel
theorem dX2_reader_77 : decode cX2_reader 77 = .ok (.getfield 42, 3) := by decide +kernel
theorem dX2_reader_80 : decode cX2_reader 80 = .ok (.bipush 100, 2) := by decide +kernel
theorem dX2_reader_82 : decode cX2_reader 82 = .ok (.iadd, 1) := by decide +kernel
theorem dX2_reader_83 : decode cX2_reader 83 = .ok (.ireturn, 1) := by decide +kernel
theorem dX2_reader_84 : decode cX2_reader 84 = .ok (.aload_n 3, 1) := by decide +kernel
theorem dX2_reader_85 : decode cX2_reader 85 = .ok (.getfield 132, 3) := by decide +kernel
theorem dX2_reader_88 : decode cX2_reader 88 = .ok (.ireturn, 1) := by decide +kernel
theorem dX2_reader_89 : decode cX2_reader 89 = .ok (.aload_n 3, 1) := by decide +kernel
theorem dX2_reader_90 : decode cX2_reader 90 = .ok (.getfield 135, 3) := by decide +kernel
theorem dX2_reader_93 : decode cX2_reader 93 = .ok (.ireturn, 1) := by decide +kernel
theorem dX2_reader_94 : decode cX2_reader 94 = .ok (.aload_n 3, 1) := by decide +kernel
theorem dX2_reader_95 : decode cX2_reader 95 = .ok (.getfield 138, 3) := by decide +kernel
theorem dX2_reader_98 : decode cX2_reader 98 = .ok (.ireturn, 1) := by decide +kernel
theorem dX2_reader_99 : decode cX2_reader 99 = .ok (.aload_n 3, 1) := by decide +kernel
theorem dX2_reader_100 : decode cX2_reader 100 = .ok (.getfield 141, 3) := by decide +kernel
theorem dX2_reader_103 : decode cX2_reader 103 = .ok (.ireturn, 1) := by decide +kernel
theorem dX2_reader_104 : decode cX2_reader 104 = .ok (.aload_n 3, 1) := by decide +kernel
theorem dX2_reader_105 : decode cX2_reader 105 = .ok (.getfield 144, 3) := by decide +kernel
theorem dX2_reader_108 : decode cX2_reader 108 = .ok (.ireturn, 1) := by decide +kernel
theorem dX2_reader_109 : decode cX2_reader 109 = .ok (.aload_n 3, 1) := by decide +kernel
theorem dX2_reader_110 : decode cX2_reader 110 = .ok (.getfield 147, 3) := by decide +kernel
theorem dX2_reader_113 : decode cX2_reader 113 = .ok (.ireturn, 1) := by decide +kernel
theorem dX2_reader_114 : decode cX2_reader 114 = .ok (.bipush (-2), 2) := by decide +kernel
theorem dX2_reader_116 : decode cX2_reader 116 = .ok (.ireturn, 1) := by decide +kernel
theorem dX2_waiting_0 : decode cX2_waiting 0 = .ok (.iload_n 1, 1) := by decide +kernel
theorem dX2_waiting_1 : decode cX2_waiting 1 = .ok (.ifCond .lt 26, 3) := by decide +kernel
theorem dX2_waiting_4 : decode cX2_waiting 4 = .ok (.iload_n 1, 1) := by decide +kernel
theorem dX2_waiting_5 : decode cX2_waiting 5 = .ok (.aload_n 0, 1) := by decide +kernel
theorem dX2_waiting_6 : decode cX2_waiting 6 = .ok (.getfield 10, 3) := by decide +kernel
theorem dX2_waiting_9 : decode cX2_waiting 9 = .ok (.getfield 150, 3) := by decide +kernel
theorem dX2_waiting_12 : decode cX2_waiting 12 = .ok (.if_icmp .ge 15, 3) := by decide +kernel
theorem dX2_waiting_15 : decode cX2_waiting 15 = .ok (.aload_n 0, 1) := by decide +kernel
theorem dX2_waiting_16 : decode cX2_waiting 16 = .ok (.getfield 10, 3) := by decide +kernel
theorem dX2_waiting_19 : decode cX2_waiting 19 = .ok (.getfield 153, 3) := by decide +kernel
theorem dX2_waiting_22 : decode cX2_waiting 22 = .ok (.iload_n 1, 1) := by decide +kernel
theorem dX2_waiting_23 : decode cX2_waiting 23 = .ok (.iaload, 1) := by decide +kernel
theorem dX2_waiting_24 : decode cX2_waiting 24 = .ok (.goto 5, 3) := by decide +kernel
theorem dX2_waiting_27 : decode cX2_waiting 27 = .ok (.bipush (-6), 2) := by decide +kernel
theorem dX2_waiting_29 : decode cX2_waiting 29 = .ok (.ireturn, 1) := by decide +kernel
theorem dX2_count_0 : decode cX2_count 0 = .ok (.iload_n 1, 1) := by decide +kernel
theorem dX2_count_1 : decode cX2_count 1 = .ok (.tableswitch 180 0 13 #[71, 79, 87, 95, 103, 111, 119, 127, 135, 180, 140, 150, 160, 170], 71) := by decide +kernel
theorem dX2_count_72 : decode cX2_count 72 = .ok (.aload_n 0, 1) := by decide +kernel
theorem dX2_count_73 : decode cX2_count 73 = .ok (.getfield 10, 3) := by decide +kernel
theorem dX2_count_76 : decode cX2_count 76 = .ok (.getfield 72, 3) := by decide +kernel
theorem dX2_count_79 : decode cX2_count 79 = .ok (.ireturn, 1) := by decide +kernel
theorem dX2_count_80 : decode cX2_count 80 = .ok (.aload_n 0, 1) := by decide +kernel
theorem dX2_count_81 : decode cX2_count 81 = .ok (.getfield 10, 3) := by decide +kernel
theorem dX2_count_84 : decode cX2_count 84 = .ok (.getfield 156, 3) := by decide +kernel
theorem dX2_count_87 : decode cX2_count 87 = .ok (.ireturn, 1) := by decide +kernel
theorem dX2_count_88 : decode cX2_count 88 = .ok (.aload_n 0, 1) := by decide +kernel
theorem dX2_count_89 : decode cX2_count 89 = .ok (.getfield 10, 3) := by decide +kernel
theorem dX2_count_92 : decode cX2_count 92 = .ok (.getfield 159, 3) := by decide +kernel
theorem dX2_count_95 : decode cX2_count 95 = .ok (.ireturn, 1) := by decide +kernel
theorem dX2_count_96 : decode cX2_count 96 = .ok (.aload_n 0, 1) := by decide +kernel
theorem dX2_count_97 : decode cX2_count 97 = .ok (.getfield 10, 3) := by decide +kernel
theorem dX2_count_100 : decode cX2_count 100 = .ok (.getfield 162, 3) := by decide +kernel
theorem dX2_count_103 : decode cX2_count 103 = .ok (.ireturn, 1) := by decide +kernel
theorem dX2_count_104 : decode cX2_count 104 = .ok (.aload_n 0, 1) := by decide +kernel
theorem dX2_count_105 : decode cX2_count 105 = .ok (.getfield 10, 3) := by decide +kernel
theorem dX2_count_108 : decode cX2_count 108 = .ok (.getfield 150, 3) := by decide +kernel
theorem dX2_count_111 : decode cX2_count 111 = .ok (.ireturn, 1) := by decide +kernel
theorem dX2_count_112 : decode cX2_count 112 = .ok (.aload_n 0, 1) := by decide +kernel
theorem dX2_count_113 : decode cX2_count 113 = .ok (.getfield 10, 3) := by decide +kernel
theorem dX2_count_116 : decode cX2_count 116 = .ok (.getfield 165, 3) := by decide +kernel
theorem dX2_count_119 : decode cX2_count 119 = .ok (.ireturn, 1) := by decide +kernel
theorem dX2_count_120 : decode cX2_count 120 = .ok (.aload_n 0, 1) := by decide +kernel
theorem dX2_count_121 : decode cX2_count 121 = .ok (.getfield 10, 3) := by decide +kernel
theorem dX2_count_124 : decode cX2_count 124 = .ok (.getfield 168, 3) := by decide +kernel
theorem dX2_count_127 : decode cX2_count 127 = .ok (.ireturn, 1) := by decide +kernel
theorem dX2_count_128 : decode cX2_count 128 = .ok (.aload_n 0, 1) := by decide +kernel
theorem dX2_count_129 : decode cX2_count 129 = .ok (.getfield 10, 3) := by decide +kernel
theorem dX2_count_132 : decode cX2_count 132 = .ok (.getfield 171, 3) := by decide +kernel
theorem dX2_count_135 : decode cX2_count 135 = .ok (.ireturn, 1) := by decide +kernel
theorem dX2_count_136 : decode cX2_count 136 = .ok (.aload_n 0, 1) := by decide +kernel
theorem dX2_count_137 : decode cX2_count 137 = .ok (.getfield 20, 3) := by decide +kernel
theorem dX2_count_140 : decode cX2_count 140 = .ok (.ireturn, 1) := by decide +kernel
theorem dX2_count_141 : decode cX2_count 141 = .ok (.aload_n 0, 1) := by decide +kernel
theorem dX2_count_142 : decode cX2_count 142 = .ok (.getfield 10, 3) := by decide +kernel
theorem dX2_count_145 : decode cX2_count 145 = .ok (.getfield 31, 3) := by decide +kernel
theorem dX2_count_148 : decode cX2_count 148 = .ok (.iconst 0, 1) := by decide +kernel
theorem dX2_count_149 : decode cX2_count 149 = .ok (.iaload, 1) := by decide +kernel
theorem dX2_count_150 : decode cX2_count 150 = .ok (.ireturn, 1) := by decide +kernel
theorem dX2_count_151 : decode cX2_count 151 = .ok (.aload_n 0, 1) := by decide +kernel
theorem dX2_count_152 : decode cX2_count 152 = .ok (.getfield 10, 3) := by decide +kernel
theorem dX2_count_155 : decode cX2_count 155 = .ok (.getfield 31, 3) := by decide +kernel
theorem dX2_count_158 : decode cX2_count 158 = .ok (.iconst 1, 1) := by decide +kernel
theorem dX2_count_159 : decode cX2_count 159 = .ok (.iaload, 1) := by decide +kernel
theorem dX2_count_160 : decode cX2_count 160 = .ok (.ireturn, 1) := by decide +kernel
theorem dX2_count_161 : decode cX2_count 161 = .ok (.aload_n 0, 1) := by decide +kernel
theorem dX2_count_162 : decode cX2_count 162 = .ok (.getfield 10, 3) := by decide +kernel
theorem dX2_count_165 : decode cX2_count 165 = .ok (.getfield 31, 3) := by decide +kernel
theorem dX2_count_168 : decode cX2_count 168 = .ok (.iconst 2, 1) := by decide +kernel
theorem dX2_count_169 : decode cX2_count 169 = .ok (.iaload, 1) := by decide +kernel
theorem dX2_count_170 : decode cX2_count 170 = .ok (.ireturn, 1) := by decide +kernel
theorem dX2_count_171 : decode cX2_count 171 = .ok (.aload_n 0, 1) := by decide +kernel
theorem dX2_count_172 : decode cX2_count 172 = .ok (.getfield 10, 3) := by decide +kernel
theorem dX2_count_175 : decode cX2_count 175 = .ok (.getfield 31, 3) := by decide +kernel
theorem dX2_count_178 : decode cX2_count 178 = .ok (.iconst 3, 1) := by decide +kernel
theorem dX2_count_179 : decode cX2_count 179 = .ok (.iaload, 1) := by decide +kernel
theorem dX2_count_180 : decode cX2_count 180 = .ok (.ireturn, 1) := by decide +kernel
theorem dX2_count_181 : decode cX2_count 181 = .ok (.bipush (-2), 2) := by decide +kernel
theorem dX2_count_183 : decode cX2_count 183 = .ok (.ireturn, 1) := by decide +kernel
set_option maxRecDepth 20000 in
theorem ggX2_image_X2_isImage : GoodIn wsX2_image wsX2_isImage := goodIn_r _ [7] (by decide +kernel) (by decide +kernel)
set_option maxRecDepth 20000 in
theorem gX2_image_X2_isImage : GoodIn wsX2_image (va_wsS RX2 174 yX2_isImage wsX2_isImage) := goodIn_app (goodIn_of _ (by decide +kernel)) ggX2_image_X2_isImage
set_option maxRecDepth 20000 in
theorem ggX2_image_X0_becomeLike : GoodIn wsX2_image wsX0_becomeLike := goodIn_r _ [11, 12, 13, 14, 15, 16, 17, 18, 19, 20, 21, 22, 23, 24, 25, 26, 27, 28, 29, 6, 30, 31, 32, 33, 34, 35, 36, 37, 38, 39, 40, 41, 42, 43, 44, 45, 46, 47, 48, 49, 50, 51, 52, 53, 54, 55, 59, 60, 61, 62, 63, 64, 65, 66, 67, 68, 69, 70, 71, 72, 73, 74, 75, 76, 77, 78, 79, 80, 81, 82, 83, 84, 85, 86, 87, 88] (by decide +kernel) (by decide +kernel)
set_option maxRecDepth 20000 in
theorem gX2_image_X0_becomeLike_n177 : GoodIn wsX2_image (wsX0_becomeLike) := ggX2_image_X0_becomeLike
theorem dX2_image_0 : decode cX2_image 0 = .ok (.iload_n 1, 1) := by decide +kernel
theorem dX2_image_1 : decode cX2_image 1 = .ok (.invokestatic 174, 3) := by decide +kernel
theorem dX2_image_4 : decode cX2_image 4 = .ok (.ifCond .ne 6, 3) := by decide +kernel
theorem dX2_image_7 : decode cX2_image 7 = .ok (.bipush (-2), 2) := by decide +kernel
theorem dX2_image_9 : decode cX2_image 9 = .ok (.ireturn, 1) := by decide +kernel
theorem dX2_image_10 : decode cX2_image 10 = .ok (.aload_n 0, 1) := by decide +kernel
theorem dX2_image_11 : decode cX2_image 11 = .ok (.getfield 16, 3) := by decide +kernel
theorem dX2_image_14 : decode cX2_image 14 = .ok (.iload_n 1, 1) := by decide +kernel
theorem dX2_image_15 : decode cX2_image 15 = .ok (.aaload, 1) := by decide +kernel
theorem dX2_image_16 : decode cX2_image 16 = .ok (.aload_n 0, 1) := by decide +kernel
theorem dX2_image_17 : decode cX2_image 17 = .ok (.getfield 10, 3) := by decide +kernel
theorem dX2_image_20 : decode cX2_image 20 = .ok (.invokevirtual 177, 3) := by decide +kernel
theorem dX2_image_23 : decode cX2_image 23 = .ok (.aload_n 0, 1) := by decide +kernel
theorem dX2_image_24 : decode cX2_image 24 = .ok (.dup, 1) := by decide +kernel
theorem dX2_image_25 : decode cX2_image 25 = .ok (.getfield 20, 3) := by decide +kernel
theorem dX2_image_28 : decode cX2_image 28 = .ok (.iconst 1, 1) := by decide +kernel
theorem dX2_image_29 : decode cX2_image 29 = .ok (.iload_n 1, 1) := by decide +kernel
theorem dX2_image_30 : decode cX2_image 30 = .ok (.ishl, 1) := by decide +kernel
theorem dX2_image_31 : decode cX2_image 31 = .ok (.ior, 1) := by decide +kernel
theorem dX2_image_32 : decode cX2_image 32 = .ok (.putfield 20, 3) := by decide +kernel
theorem dX2_image_35 : decode cX2_image 35 = .ok (.iconst 1, 1) := by decide +kernel
theorem dX2_image_36 : decode cX2_image 36 = .ok (.ireturn, 1) := by decide +kernel
set_option maxRecDepth 20000 in
theorem ggX2_restore_X2_isImage : GoodIn wsX2_restore wsX2_isImage := goodIn_r _ [7] (by decide +kernel) (by decide +kernel)
set_option maxRecDepth 20000 in
theorem gX2_restore_X2_isImage : GoodIn wsX2_restore (va_wsS RX2 174 yX2_isImage wsX2_isImage) := goodIn_app (goodIn_of _ (by decide +kernel)) ggX2_restore_X2_isImage
set_option maxRecDepth 20000 in
theorem ggX2_restore_X2_isInSet : GoodIn wsX2_restore wsX2_isInSet := goodIn_r _ [10] (by decide +kernel) (by decide +kernel)
set_option maxRecDepth 20000 in
theorem gX2_restore_X2_isInSet : GoodIn wsX2_restore (va_wsS RX2 181 yX2_isInSet wsX2_isInSet) := goodIn_app (goodIn_of _ (by decide +kernel)) ggX2_restore_X2_isInSet
set_option maxRecDepth 20000 in
theorem ggX2_restore_X0_becomeLike : GoodIn wsX2_restore wsX0_becomeLike := goodIn_r _ [14, 15, 16, 17, 18, 19, 20, 21, 22, 23, 24, 25, 26, 27, 28, 29, 30, 31, 32, 6, 33, 34, 35, 36, 37, 38, 39, 40, 41, 42, 43, 44, 45, 46, 47, 48, 49, 50, 51, 52, 53, 54, 55, 56, 57, 58, 62, 63, 64, 65, 66, 67, 68, 69, 70, 71, 72, 73, 74, 75, 76, 77, 78, 79, 80, 81, 82, 83, 84, 85, 86, 87, 88, 89, 90, 91] (by decide +kernel) (by decide +kernel)
set_option maxRecDepth 20000 in
theorem gX2_restore_X0_becomeLike_n177 : GoodIn wsX2_restore (wsX0_becomeLike) := ggX2_restore_X0_becomeLike
theorem dX2_restore_0 : decode cX2_restore 0 = .ok (.iload_n 1, 1) := by decide +kernel
theorem dX2_restore_1 : decode cX2_restore 1 = .ok (.invokestatic 174, 3) := by decide +kernel
theorem dX2_restore_4 : decode cX2_restore 4 = .ok (.ifCond .ne 6, 3) := by decide +kernel
theorem dX2_restore_7 : decode cX2_restore 7 = .ok (.bipush (-2), 2) := by decide +kernel
theorem dX2_restore_9 : decode cX2_restore 9 = .ok (.ireturn, 1) := by decide +kernel
theorem dX2_restore_10 : decode cX2_restore 10 = .ok (.aload_n 0, 1) := by decide +kernel
theorem dX2_restore_11 : decode cX2_restore 11 = .ok (.getfield 20, 3) := by decide +kernel
theorem dX2_restore_14 : decode cX2_restore 14 = .ok (.iload_n 1, 1) := by decide +kernel
theorem dX2_restore_15 : decode cX2_restore 15 = .ok (.invokestatic 181, 3) := by decide +kernel
theorem dX2_restore_18 : decode cX2_restore 18 = .ok (.ifCond .ne 6, 3) := by decide +kernel
theorem dX2_restore_21 : decode cX2_restore 21 = .ok (.bipush (-3), 2) := by decide +kernel
theorem dX2_restore_23 : decode cX2_restore 23 = .ok (.ireturn, 1) := by decide +kernel
theorem dX2_restore_24 : decode cX2_restore 24 = .ok (.aload_n 0, 1) := by decide +kernel
theorem dX2_restore_25 : decode cX2_restore 25 = .ok (.getfield 10, 3) := by decide +kernel
theorem dX2_restore_28 : decode cX2_restore 28 = .ok (.aload_n 0, 1) := by decide +kernel
theorem dX2_restore_29 : decode cX2_restore 29 = .ok (.getfield 16, 3) := by decide +kernel
theorem dX2_restore_32 : decode cX2_restore 32 = .ok (.iload_n 1, 1) := by decide +kernel
theorem dX2_restore_33 : decode cX2_restore 33 = .ok (.aaload, 1) := by decide +kernel
theorem dX2_restore_34 : decode cX2_restore 34 = .ok (.invokevirtual 177, 3) := by decide +kernel
theorem dX2_restore_37 : decode cX2_restore 37 = .ok (.iconst 1, 1) := by decide +kernel
theorem dX2_restore_38 : decode cX2_restore 38 = .ok (.ireturn, 1) := by decide +kernel
theorem dX2_isReader_0 : decode cX2_isReader 0 = .ok (.iload_n 0, 1) := by decide +kernel
theorem dX2_isReader_1 : decode cX2_isReader 1 = .ok (.ifCond .lt 12, 3) := by decide +kernel
theorem dX2_isReader_4 : decode cX2_isReader 4 = .ok (.iload_n 0, 1) := by decide +kernel
theorem dX2_isReader_5 : decode cX2_isReader 5 = .ok (.iconst 5, 1) := by decide +kernel
theorem dX2_isReader_6 : decode cX2_isReader 6 = .ok (.if_icmp .ge 7, 3) := by decide +kernel
theorem dX2_isReader_9 : decode cX2_isReader 9 = .ok (.iconst 1, 1) := by decide +kernel
theorem dX2_isReader_10 : decode cX2_isReader 10 = .ok (.goto 4, 3) := by decide +kernel
theorem dX2_isReader_13 : decode cX2_isReader 13 = .ok (.iconst 0, 1) := by decide +kernel
theorem dX2_isReader_14 : decode cX2_isReader 14 = .ok (.ireturn, 1) := by decide +kernel
theorem dX2_isThing_0 : decode cX2_isThing 0 = .ok (.iload_n 0, 1) := by decide +kernel
theorem dX2_isThing_1 : decode cX2_isThing 1 = .ok (.ifCond .lt 13, 3) := by decide +kernel
theorem dX2_isThing_4 : decode cX2_isThing 4 = .ok (.iload_n 0, 1) := by decide +kernel
theorem dX2_isThing_5 : decode cX2_isThing 5 = .ok (.bipush 12, 2) := by decide +kernel
theorem dX2_isThing_7 : decode cX2_isThing 7 = .ok (.if_icmp .ge 7, 3) := by decide +kernel
theorem dX2_isThing_10 : decode cX2_isThing 10 = .ok (.iconst 1, 1) := by decide +kernel
theorem dX2_isThing_11 : decode cX2_isThing 11 = .ok (.goto 4, 3) := by decide +kernel
theorem dX2_isThing_14 : decode cX2_isThing 14 = .ok (.iconst 0, 1) := by decide +kernel
theorem dX2_isThing_15 : decode cX2_isThing 15 = .ok (.ireturn, 1) := by decide +kernel
theorem dX2_isImage_0 : decode cX2_isImage 0 = .ok (.iload_n 0, 1) := by decide +kernel
theorem dX2_isImage_1 : decode cX2_isImage 1 = .ok (.ifCond .lt 12, 3) := by decide +kernel
theorem dX2_isImage_4 : decode cX2_isImage 4 = .ok (.iload_n 0, 1) := by decide +kernel
theorem dX2_isImage_5 : decode cX2_isImage 5 = .ok (.iconst 2, 1) := by decide +kernel
theorem dX2_isImage_6 : decode cX2_isImage 6 = .ok (.if_icmp .ge 7, 3) := by decide +kernel
theorem dX2_isImage_9 : decode cX2_isImage 9 = .ok (.iconst 1, 1) := by decide +kernel
theorem dX2_isImage_10 : decode cX2_isImage 10 = .ok (.goto 4, 3) := by decide +kernel
theorem dX2_isImage_13 : decode cX2_isImage 13 = .ok (.iconst 0, 1) := by decide +kernel
theorem dX2_isImage_14 : decode cX2_isImage 14 = .ok (.ireturn, 1) := by decide +kernel
theorem dX2_volumeOf_0 : decode cX2_volumeOf 0 = .ok (.iload_n 0, 1) := by decide +kernel
theorem dX2_volumeOf_1 : decode cX2_volumeOf 1 = .ok (.iconst 4, 1) := by decide +kernel
theorem dX2_volumeOf_2 : decode cX2_volumeOf 2 = .ok (.idiv, 1) := by decide +kernel
theorem dX2_volumeOf_3 : decode cX2_volumeOf 3 = .ok (.ireturn, 1) := by decide +kernel
theorem dX2_isInSet_0 : decode cX2_isInSet 0 = .ok (.iload_n 0, 1) := by decide +kernel
theorem dX2_isInSet_1 : decode cX2_isInSet 1 = .ok (.iconst 1, 1) := by decide +kernel
theorem dX2_isInSet_2 : decode cX2_isInSet 2 = .ok (.iload_n 1, 1) := by decide +kernel
theorem dX2_isInSet_3 : decode cX2_isInSet 3 = .ok (.ishl, 1) := by decide +kernel
theorem dX2_isInSet_4 : decode cX2_isInSet 4 = .ok (.iand, 1) := by decide +kernel
theorem dX2_isInSet_5 : decode cX2_isInSet 5 = .ok (.ifCond .eq 7, 3) := by decide +kernel
theorem dX2_isInSet_8 : decode cX2_isInSet 8 = .ok (.iconst 1, 1) := by decide +kernel
theorem dX2_isInSet_9 : decode cX2_isInSet 9 = .ok (.goto 4, 3) := by decide +kernel
theorem dX2_isInSet_12 : decode cX2_isInSet 12 = .ok (.iconst 0, 1) := by decide +kernel
theorem dX2_isInSet_13 : decode cX2_isInSet 13 = .ok (.ireturn, 1) := by decide +kernel
theorem dX2_bit_0 : decode cX2_bit 0 = .ok (.iload_n 0, 1) := by decide +kernel
theorem dX2_bit_1 : decode cX2_bit 1 = .ok (.ifCond .eq 7, 3) := by decide +kernel
theorem dX2_bit_4 : decode cX2_bit 4 = .ok (.iconst 1, 1) := by decide +kernel
theorem dX2_bit_5 : decode cX2_bit 5 = .ok (.goto 4, 3) := by decide +kernel
theorem dX2_bit_8 : decode cX2_bit 8 = .ok (.iconst 0, 1) := by decide +kernel
theorem dX2_bit_9 : decode cX2_bit 9 = .ok (.ireturn, 1) := by decide +kernel
theorem dX2_copyRow_0 : decode cX2_copyRow 0 = .ok (.aload_n 0, 1) := by decide +kernel
theorem dX2_copyRow_1 : decode cX2_copyRow 1 = .ok (.iconst 0, 1) := by decide +kernel
theorem dX2_copyRow_2 : decode cX2_copyRow 2 = .ok (.aload_n 1, 1) := by decide +kernel
theorem dX2_copyRow_3 : decode cX2_copyRow 3 = .ok (.iconst 0, 1) := by decide +kernel
theorem dX2_copyRow_4 : decode cX2_copyRow 4 = .ok (.aload_n 0, 1) := by decide +kernel
theorem dX2_copyRow_5 : decode cX2_copyRow 5 = .ok (.arraylength, 1) := by decide +kernel
theorem dX2_copyRow_6 : decode cX2_copyRow 6 = .ok (.aload_n 1, 1) := by decide +kernel
theorem dX2_copyRow_7 : decode cX2_copyRow 7 = .ok (.arraylength, 1) := by decide +kernel
theorem dX2_copyRow_8 : decode cX2_copyRow 8 = .ok (.invokestatic 185, 3) := by decide +kernel
theorem dX2_copyRow_11 : decode cX2_copyRow 11 = .ok (.invokestatic 190, 3) := by decide +kernel
theorem dX2_copyRow_14 : decode cX2_copyRow 14 = .ok (.return_, 1) := by decide +kernel
set_option maxRecDepth 20000 in
theorem ggX3_init_X3_said : GoodIn wsX3_init wsX3_said := goodIn_r _ [12] (by decide +kernel) (by decide +kernel)
set_option maxRecDepth 20000 in
theorem gX3_init_X3_said : GoodIn wsX3_init (va_wsS RX3 20 yX3_said wsX3_said) := goodIn_app (goodIn_of _ (by decide +kernel)) ggX3_init_X3_said
theorem dX3_init_0 : decode cX3_init 0 = .ok (.aload_n 0, 1) := by decide +kernel
theorem dX3_init_1 : decode cX3_init 1 = .ok (.invokespecial 1, 3) := by decide +kernel
theorem dX3_init_4 : decode cX3_init 4 = .ok (.aload_n 0, 1) := by decide +kernel
theorem dX3_init_5 : decode cX3_init 5 = .ok (.sipush 309, 3) := by decide +kernel
theorem dX3_init_8 : decode cX3_init 8 = .ok (.newarray .int, 2) := by decide +kernel
theorem dX3_init_10 : decode cX3_init 10 = .ok (.putfield 7, 3) := by decide +kernel
theorem dX3_init_13 : decode cX3_init 13 = .ok (.aload_n 0, 1) := by decide +kernel
theorem dX3_init_14 : decode cX3_init 14 = .ok (.sipush 618, 3) := by decide +kernel
theorem dX3_init_17 : decode cX3_init 17 = .ok (.newarray .int, 2) := by decide +kernel
theorem dX3_init_19 : decode cX3_init 19 = .ok (.putfield 13, 3) := by decide +kernel
theorem dX3_init_22 : decode cX3_init 22 = .ok (.aload_n 0, 1) := by decide +kernel
theorem dX3_init_23 : decode cX3_init 23 = .ok (.iconst 2, 1) := by decide +kernel
theorem dX3_init_24 : decode cX3_init 24 = .ok (.newarray .boolean, 2) := by decide +kernel
theorem dX3_init_26 : decode cX3_init 26 = .ok (.putfield 16, 3) := by decide +kernel
theorem dX3_init_29 : decode cX3_init 29 = .ok (.aload_n 0, 1) := by decide +kernel
theorem dX3_init_30 : decode cX3_init 30 = .ok (.getfield 7, 3) := by decide +kernel
theorem dX3_init_33 : decode cX3_init 33 = .ok (.iconst 1, 1) := by decide +kernel
theorem dX3_init_34 : decode cX3_init 34 = .ok (.bipush 40, 2) := by decide +kernel
theorem dX3_init_36 : decode cX3_init 36 = .ok (.iastore, 1) := by decide +kernel
theorem dX3_init_37 : decode cX3_init 37 = .ok (.aload_n 0, 1) := by decide +kernel
theorem dX3_init_38 : decode cX3_init 38 = .ok (.getfield 7, 3) := by decide +kernel
theorem dX3_init_41 : decode cX3_init 41 = .ok (.iconst 2, 1) := by decide +kernel
theorem dX3_init_42 : decode cX3_init 42 = .ok (.bipush 10, 2) := by decide +kernel
theorem dX3_init_44 : decode cX3_init 44 = .ok (.iastore, 1) := by decide +kernel
theorem dX3_init_45 : decode cX3_init 45 = .ok (.aload_n 0, 1) := by decide +kernel
theorem dX3_init_46 : decode cX3_init 46 = .ok (.getfield 7, 3) := by decide +kernel
theorem dX3_init_49 : decode cX3_init 49 = .ok (.iconst 3, 1) := by decide +kernel
theorem dX3_init_50 : decode cX3_init 50 = .ok (.iconst 1, 1) := by decide +kernel
theorem dX3_init_51 : decode cX3_init 51 = .ok (.iastore, 1) := by decide +kernel
theorem dX3_init_52 : decode cX3_init 52 = .ok (.aload_n 0, 1) := by decide +kernel
theorem dX3_init_53 : decode cX3_init 53 = .ok (.getfield 7, 3) := by decide +kernel
theorem dX3_init_56 : decode cX3_init 56 = .ok (.iconst 4, 1) := by decide +kernel
theorem dX3_init_57 : decode cX3_init 57 = .ok (.bipush 100, 2) := by decide +kernel
theorem dX3_init_59 : decode cX3_init 59 = .ok (.iastore, 1) := by decide +kernel
theorem dX3_init_60 : decode cX3_init 60 = .ok (.iconst 0, 1) := by decide +kernel
theorem dX3_init_61 : decode cX3_init 61 = .ok (.istore_n 1, 1) := by decide +kernel
theorem dX3_init_62 : decode cX3_init 62 = .ok (.iload_n 1, 1) := by decide +kernel
theorem dX3_init_63 : decode cX3_init 63 = .ok (.bipush 12, 2) := by decide +kernel
theorem dX3_init_65 : decode cX3_init 65 = .ok (.if_icmp .ge 20, 3) := by decide +kernel
theorem dX3_init_68 : decode cX3_init 68 = .ok (.aload_n 0, 1) := by decide +kernel
theorem dX3_init_69 : decode cX3_init 69 = .ok (.getfield 7, 3) := by decide +kernel
theorem dX3_init_72 : decode cX3_init 72 = .ok (.bipush 17, 2) := by decide +kernel
theorem dX3_init_74 : decode cX3_init 74 = .ok (.iload_n 1, 1) := by decide +kernel
theorem dX3_init_75 : decode cX3_init 75 = .ok (.iadd, 1) := by decide +kernel
theorem dX3_init_76 : decode cX3_init 76 = .ok (.bipush (-6), 2) := by decide +kernel
theorem dX3_init_78 : decode cX3_init 78 = .ok (.iastore, 1) := by decide +kernel
theorem dX3_init_79 : decode cX3_init 79 = .ok (.iinc 1 1, 3) := by decide +kernel
theorem dX3_init_82 : decode cX3_init 82 = .ok (.goto (-20), 3) := by decide +kernel
theorem dX3_init_85 : decode cX3_init 85 = .ok (.iconst 0, 1) := by decide +kernel
theorem dX3_init_86 : decode cX3_init 86 = .ok (.istore_n 1, 1) := by decide +kernel
theorem dX3_init_87 : decode cX3_init 87 = .ok (.iload_n 1, 1) := by decide +kernel
theorem dX3_init_88 : decode cX3_init 88 = .ok (.iconst 5, 1) := by decide +kernel
theorem dX3_init_89 : decode cX3_init 89 = .ok (.if_icmp .ge 61, 3) := by decide +kernel
theorem dX3_init_92 : decode cX3_init 92 = .ok (.aload_n 0, 1) := by decide +kernel
theorem dX3_init_93 : decode cX3_init 93 = .ok (.getfield 7, 3) := by decide +kernel
theorem dX3_init_96 : decode cX3_init 96 = .ok (.bipush 42, 2) := by decide +kernel
theorem dX3_init_98 : decode cX3_init 98 = .ok (.iload_n 1, 1) := by decide +kernel
theorem dX3_init_99 : decode cX3_init 99 = .ok (.iadd, 1) := by decide +kernel
theorem dX3_init_100 : decode cX3_init 100 = .ok (.iconst 1, 1) := by decide +kernel
theorem dX3_init_101 : decode cX3_init 101 = .ok (.iastore, 1) := by decide +kernel
theorem dX3_init_102 : decode cX3_init 102 = .ok (.aload_n 0, 1) := by decide +kernel
theorem dX3_init_103 : decode cX3_init 103 = .ok (.getfield 7, 3) := by decide +kernel
theorem dX3_init_106 : decode cX3_init 106 = .ok (.iload_n 1, 1) := by decide +kernel
theorem dX3_init_107 : decode cX3_init 107 = .ok (.iconst 0, 1) := by decide +kernel
theorem dX3_init_108 : decode cX3_init 108 = .ok (.invokestatic 20, 3) := by decide +kernel
theorem dX3_init_111 : decode cX3_init 111 = .ok (.bipush (-6), 2) := by decide +kernel
theorem dX3_init_113 : decode cX3_init 113 = .ok (.iastore, 1) := by decide +kernel
theorem dX3_init_114 : decode cX3_init 114 = .ok (.iconst 0, 1) := by decide +kernel
theorem dX3_init_115 : decode cX3_init 115 = .ok (.istore_n 2, 1) := by decide +kernel
theorem dX3_init_116 : decode cX3_init 116 = .ok (.iload_n 2, 1) := by decide +kernel
theorem dX3_init_117 : decode cX3_init 117 = .ok (.bipush 12, 2) := by decide +kernel
theorem dX3_init_119 : decode cX3_init 119 = .ok (.if_icmp .ge 25, 3) := by decide +kernel
theorem dX3_init_122 : decode cX3_init 122 = .ok (.aload_n 0, 1) := by decide +kernel
theorem dX3_init_123 : decode cX3_init 123 = .ok (.getfield 7, 3) := by decide +kernel
theorem dX3_init_126 : decode cX3_init 126 = .ok (.bipush 82, 2) := by decide +kernel
theorem dX3_init_128 : decode cX3_init 128 = .ok (.bipush 12, 2) := by decide +kernel
theorem dX3_init_130 : decode cX3_init 130 = .ok (.iload_n 1, 1) := by decide +kernel
theorem dX3_init_131 : decode cX3_init 131 = .ok (.imul, 1) := by decide +kernel
theorem dX3_init_132 : decode cX3_init 132 = .ok (.iadd, 1) := by decide +kernel
theorem dX3_init_133 : decode cX3_init 133 = .ok (.iload_n 2, 1) := by decide +kernel
theorem dX3_init_134 : decode cX3_init 134 = .ok (.iadd, 1) := by decide +kernel
theorem dX3_init_135 : decode cX3_init 135 = .ok (.bipush (-6), 2) := by decide +kernel
theorem dX3_init_137 : decode cX3_init 137 = .ok (.iastore, 1) := by decide +kernel
theorem dX3_init_138 : decode cX3_init 138 = .ok (.iinc 2 1, 3) := by decide +kernel
theorem dX3_init_141 : decode cX3_init 141 = .ok (.goto (-25), 3) := by decide +kernel
theorem dX3_init_144 : decode cX3_init 144 = .ok (.iinc 1 1, 3) := by decide +kernel
theorem dX3_init_147 : decode cX3_init 147 = .ok (.goto (-60), 3) := by decide +kernel
theorem dX3_init_150 : decode cX3_init 150 = .ok (.return_, 1) := by decide +kernel
theorem dX3_in_0 : decode cX3_in 0 = .ok (.iload_n 0, 1) := by decide +kernel
theorem dX3_in_1 : decode cX3_in 1 = .ok (.iload_n 1, 1) := by decide +kernel
theorem dX3_in_2 : decode cX3_in 2 = .ok (.if_icmp .lt 12, 3) := by decide +kernel
theorem dX3_in_5 : decode cX3_in 5 = .ok (.iload_n 0, 1) := by decide +kernel
theorem dX3_in_6 : decode cX3_in 6 = .ok (.iload_n 2, 1) := by decide +kernel
theorem dX3_in_7 : decode cX3_in 7 = .ok (.if_icmp .gt 7, 3) := by decide +kernel
theorem dX3_in_10 : decode cX3_in 10 = .ok (.iconst 1, 1) := by decide +kernel
theorem dX3_in_11 : decode cX3_in 11 = .ok (.goto 4, 3) := by decide +kernel
theorem dX3_in_14 : decode cX3_in 14 = .ok (.iconst 0, 1) := by decide +kernel
theorem dX3_in_15 : decode cX3_in 15 = .ok (.ireturn, 1) := by decide +kernel
set_option maxRecDepth 20000 in
theorem ggX3_isReader_X3_in : GoodIn wsX3_isReader wsX3_in := goodIn_r _ [4] (by decide +kernel) (by decide +kernel)
set_option maxRecDepth 20000 in
theorem gX3_isReader_X3_in : GoodIn wsX3_isReader (va_wsS RX3 24 yX3_in wsX3_in) := goodIn_app (goodIn_of _ (by decide +kernel)) ggX3_isReader_X3_in
theorem dX3_isReader_0 : decode cX3_isReader 0 = .ok (.iload_n 0, 1) := by decide +kernel
theorem dX3_isReader_1 : decode cX3_isReader 1 = .ok (.iconst 0, 1) := by decide +kernel
theorem dX3_isReader_2 : decode cX3_isReader 2 = .ok (.iconst 4, 1) := by decide +kernel
theorem dX3_isReader_3 : decode cX3_isReader 3 = .ok (.invokestatic 24, 3) := by decide +kernel
theorem dX3_isReader_6 : decode cX3_isReader 6 = .ok (.ireturn, 1) := by decide +kernel
set_option maxRecDepth 20000 in
theorem ggX3_isThing_X3_in : GoodIn wsX3_isThing wsX3_in := goodIn_r _ [4] (by decide +kernel) (by decide +kernel)
set_option maxRecDepth 20000 in
theorem gX3_isThing_X3_in : GoodIn wsX3_isThing (va_wsS RX3 24 yX3_in wsX3_in) := goodIn_app (goodIn_of _ (by decide +kernel)) ggX3_isThing_X3_in
theorem dX3_isThing_0 : decode cX3_isThing 0 = .ok (.iload_n 0, 1) := by decide +kernel
theorem dX3_isThing_1 : decode cX3_isThing 1 = .ok (.iconst 0, 1) := by decide +kernel
theorem dX3_isThing_2 : decode cX3_isThing 2 = .ok (.bipush 11, 2) := by decide +kernel
theorem dX3_isThing_4 : decode cX3_isThing 4 = .ok (.invokestatic 24, 3) := by decide +kernel
theorem dX3_isThing_7 : decode cX3_isThing 7 = .ok (.ireturn, 1) := by decide +kernel
theorem dX3_said_0 : decode cX3_said 0 = .ok (.sipush 262, 3) := by decide +kernel
theorem dX3_said_3 : decode cX3_said 3 = .ok (.bipush 6, 2) := by decide +kernel
theorem dX3_said_5 : decode cX3_said 5 = .ok (.iload_n 0, 1) := by decide +kernel
theorem dX3_said_6 : decode cX3_said 6 = .ok (.imul, 1) := by decide +kernel
theorem dX3_said_7 : decode cX3_said 7 = .ok (.iadd, 1) := by decide +kernel
theorem dX3_said_8 : decode cX3_said 8 = .ok (.iload_n 1, 1) := by decide +kernel
theorem dX3_said_9 : decode cX3_said 9 = .ok (.iadd, 1) := by decide +kernel
theorem dX3_said_10 : decode cX3_said 10 = .ok (.ireturn, 1) := by decide +kernel
theorem dX3_volumeAt_0 : decode cX3_volumeAt 0 = .ok (.iload_n 0, 1) := by decide +kernel
theorem dX3_volumeAt_1 : decode cX3_volumeAt 1 = .ok (.iconst 3, 1) := by decide +kernel
theorem dX3_volumeAt_2 : decode cX3_volumeAt 2 = .ok (.iload_n 1, 1) := by decide +kernel
theorem dX3_volumeAt_3 : decode cX3_volumeAt 3 = .ok (.imul, 1) := by decide +kernel
theorem dX3_volumeAt_4 : decode cX3_volumeAt 4 = .ok (.iadd, 1) := by decide +kernel
theorem dX3_volumeAt_5 : decode cX3_volumeAt 5 = .ok (.iload_n 2, 1) := by decide +kernel
theorem dX3_volumeAt_6 : decode cX3_volumeAt 6 = .ok (.iconst 4, 1) := by decide +kernel
theorem dX3_volumeAt_7 : decode cX3_volumeAt 7 = .ok (.idiv, 1) := by decide +kernel
theorem dX3_volumeAt_8 : decode cX3_volumeAt 8 = .ok (.iadd, 1) := by decide +kernel
theorem dX3_volumeAt_9 : decode cX3_volumeAt 9 = .ok (.ireturn, 1) := by decide +kernel
theorem dX3_thingAt_0 : decode cX3_thingAt 0 = .ok (.iload_n 0, 1) := by decide +kernel
theorem dX3_thingAt_1 : decode cX3_thingAt 1 = .ok (.bipush 12, 2) := by decide +kernel
theorem dX3_thingAt_3 : decode cX3_thingAt 3 = .ok (.iload_n 1, 1) := by decide +kernel
theorem dX3_thingAt_4 : decode cX3_thingAt 4 = .ok (.imul, 1) := by decide +kernel
theorem dX3_thingAt_5 : decode cX3_thingAt 5 = .ok (.iadd, 1) := by decide +kernel
theorem dX3_thingAt_6 : decode cX3_thingAt 6 = .ok (.iload_n 2, 1) := by decide +kernel
theorem dX3_thingAt_7 : decode cX3_thingAt 7 = .ok (.iadd, 1) := by decide +kernel
theorem dX3_thingAt_8 : decode cX3_thingAt 8 = .ok (.ireturn, 1) := by decide +kernel
set_option maxRecDepth 20000 in
theorem ggX3_rule_X3_in : GoodIn wsX3_rule wsX3_in := goodIn_r _ [5] (by decide +kernel) (by decide +kernel)
set_option maxRecDepth 20000 in
theorem gX3_rule_X3_in : GoodIn wsX3_rule (va_wsS RX3 24 yX3_in wsX3_in) := goodIn_app (goodIn_of _ (by decide +kernel)) ggX3_rule_X3_in
theorem dX3_rule_0 : decode cX3_rule 0 = .ok (.iload_n 1, 1) := by decide +kernel
theorem dX3_rule_1 : decode cX3_rule 1 = .ok (.iconst 0, 1) := by decide +kernel
theorem dX3_rule_2 : decode cX3_rule 2 = .ok (.iconst 3, 1) := by decide +kernel
theorem dX3_rule_3 : decode cX3_rule 3 = .ok (.invokestatic 24, 3) := by decide +kernel
theorem dX3_rule_6 : decode cX3_rule 6 = .ok (.ifCond .eq 53, 3) := by decide +kernel
theorem dX3_rule_9 : decode cX3_rule 9 = .ok (.iload_n 2, 1) := by decide +kernel
theorem dX3_rule_10 : decode cX3_rule 10 = .ok (.iload_n 1, 1) := by decide +kernel
theorem dX3_rule_11 : decode cX3_rule 11 = .ok (.iconst 2, 1) := by decide +kernel
theorem dX3_rule_12 : decode cX3_rule 12 = .ok (.if_icmp .ge 7, 3) := by decide +kernel
theorem dX3_rule_15 : decode cX3_rule 15 = .ok (.iconst 1, 1) := by decide +kernel
theorem dX3_rule_16 : decode cX3_rule 16 = .ok (.goto 4, 3) := by decide +kernel
theorem dX3_rule_19 : decode cX3_rule 19 = .ok (.iconst 0, 1) := by decide +kernel
theorem dX3_rule_20 : decode cX3_rule 20 = .ok (.iload_n 1, 1) := by decide +kernel
theorem dX3_rule_21 : decode cX3_rule 21 = .ok (.ifCond .ne 9, 3) := by decide +kernel
theorem dX3_rule_24 : decode cX3_rule 24 = .ok (.sipush 200, 3) := by decide +kernel
theorem dX3_rule_27 : decode cX3_rule 27 = .ok (.goto 26, 3) := by decide +kernel
theorem dX3_rule_30 : decode cX3_rule 30 = .ok (.iload_n 1, 1) := by decide +kernel
theorem dX3_rule_31 : decode cX3_rule 31 = .ok (.iconst 1, 1) := by decide +kernel
theorem dX3_rule_32 : decode cX3_rule 32 = .ok (.if_icmp .ne 8, 3) := by decide +kernel
theorem dX3_rule_35 : decode cX3_rule 35 = .ok (.bipush 100, 2) := by decide +kernel
theorem dX3_rule_37 : decode cX3_rule 37 = .ok (.goto 16, 3) := by decide +kernel
theorem dX3_rule_40 : decode cX3_rule 40 = .ok (.iload_n 1, 1) := by decide +kernel
theorem dX3_rule_41 : decode cX3_rule 41 = .ok (.iconst 2, 1) := by decide +kernel
theorem dX3_rule_42 : decode cX3_rule 42 = .ok (.if_icmp .ne 8, 3) := by decide +kernel
theorem dX3_rule_45 : decode cX3_rule 45 = .ok (.bipush 9, 2) := by decide +kernel
theorem dX3_rule_47 : decode cX3_rule 47 = .ok (.goto 6, 3) := by decide +kernel
theorem dX3_rule_50 : decode cX3_rule 50 = .ok (.sipush 500, 3) := by decide +kernel
theorem dX3_rule_53 : decode cX3_rule 53 = .ok (.invokestatic 24, 3) := by decide +kernel
theorem dX3_rule_56 : decode cX3_rule 56 = .ok (.ifCond .ne 6, 3) := by decide +kernel
theorem dX3_rule_59 : decode cX3_rule 59 = .ok (.bipush (-2), 2) := by decide +kernel
theorem dX3_rule_61 : decode cX3_rule 61 = .ok (.ireturn, 1) := by decide +kernel
theorem dX3_rule_62 : decode cX3_rule 62 = .ok (.aload_n 0, 1) := by decide +kernel
theorem dX3_rule_63 : decode cX3_rule 63 = .ok (.getfield 7, 3) := by decide +kernel
theorem dX3_rule_66 : decode cX3_rule 66 = .ok (.iconst 1, 1) := by decide +kernel
theorem dX3_rule_67 : decode cX3_rule 67 = .ok (.iload_n 1, 1) := by decide +kernel
theorem dX3_rule_68 : decode cX3_rule 68 = .ok (.iadd, 1) := by decide +kernel
theorem dX3_rule_69 : decode cX3_rule 69 = .ok (.iaload, 1) := by decide +kernel
theorem dX3_rule_70 : decode cX3_rule 70 = .ok (.istore_n 3, 1) := by decide +kernel
theorem dX3_rule_71 : decode cX3_rule 71 = .ok (.aload_n 0, 1) := by decide +kernel
theorem dX3_rule_72 : decode cX3_rule 72 = .ok (.getfield 7, 3) := by decide +kernel
theorem dX3_rule_75 : decode cX3_rule 75 = .ok (.iconst 1, 1) := by decide +kernel
theorem dX3_rule_76 : decode cX3_rule 76 = .ok (.iload_n 1, 1) := by decide +kernel
theorem dX3_rule_77 : decode cX3_rule 77 = .ok (.iadd, 1) := by decide +kernel
theorem dX3_rule_78 : decode cX3_rule 78 = .ok (.iload_n 2, 1) := by decide +kernel
theorem dX3_rule_79 : decode cX3_rule 79 = .ok (.iastore, 1) := by decide +kernel
theorem dX3_rule_80 : decode cX3_rule 80 = .ok (.iload_n 3, 1) := by decide +kernel
theorem dX3_rule_81 : decode cX3_rule 81 = .ok (.ireturn, 1) := by decide +kernel
set_option maxRecDepth 20000 in
theorem ggX3_skew_X3_isReader : GoodIn wsX3_skew wsX3_isReader := goodIn_r _ [5, 6, 7, 4, 8] (by decide +kernel) (by decide +kernel)
set_option maxRecDepth 20000 in
theorem gX3_skew_X3_isReader : GoodIn wsX3_skew (va_wsS RX3 28 yX3_isReader wsX3_isReader) := goodIn_app (goodIn_of _ (by decide +kernel)) ggX3_skew_X3_isReader
set_option maxRecDepth 20000 in
theorem ggX3_skew_X3_in : GoodIn wsX3_skew wsX3_in := goodIn_r _ [8] (by decide +kernel) (by decide +kernel)
set_option maxRecDepth 20000 in
theorem gX3_skew_X3_in : GoodIn wsX3_skew (va_wsS RX3 24 yX3_in wsX3_in) := goodIn_app (goodIn_of _ (by decide +kernel)) ggX3_skew_X3_in
theorem dX3_skew_0 : decode cX3_skew 0 = .ok (.iload_n 1, 1) := by decide +kernel
theorem dX3_skew_1 : decode cX3_skew 1 = .ok (.invokestatic 28, 3) := by decide +kernel
theorem dX3_skew_4 : decode cX3_skew 4 = .ok (.ifCond .ne 5, 3) := by decide +kernel
theorem dX3_skew_7 : decode cX3_skew 7 = .ok (.iconst (-1), 1) := by decide +kernel
theorem dX3_skew_8 : decode cX3_skew 8 = .ok (.ireturn, 1) := by decide +kernel
theorem dX3_skew_9 : decode cX3_skew 9 = .ok (.iload_n 2, 1) := by decide +kernel
theorem dX3_skew_10 : decode cX3_skew 10 = .ok (.bipush (-20), 2) := by decide +kernel
theorem dX3_skew_12 : decode cX3_skew 12 = .ok (.bipush 20, 2) := by decide +kernel
theorem dX3_skew_14 : decode cX3_skew 14 = .ok (.invokestatic 24, 3) := by decide +kernel
theorem dX3_skew_17 : decode cX3_skew 17 = .ok (.ifCond .ne 6, 3) := by decide +kernel
theorem dX3_skew_20 : decode cX3_skew 20 = .ok (.bipush (-2), 2) := by decide +kernel
theorem dX3_skew_22 : decode cX3_skew 22 = .ok (.ireturn, 1) := by decide +kernel
theorem dX3_skew_23 : decode cX3_skew 23 = .ok (.aload_n 0, 1) := by decide +kernel
theorem dX3_skew_24 : decode cX3_skew 24 = .ok (.getfield 7, 3) := by decide +kernel
theorem dX3_skew_27 : decode cX3_skew 27 = .ok (.bipush 47, 2) := by decide +kernel
theorem dX3_skew_29 : decode cX3_skew 29 = .ok (.iload_n 1, 1) := by decide +kernel
theorem dX3_skew_30 : decode cX3_skew 30 = .ok (.iadd, 1) := by decide +kernel
theorem dX3_skew_31 : decode cX3_skew 31 = .ok (.iload_n 2, 1) := by decide +kernel
theorem dX3_skew_32 : decode cX3_skew 32 = .ok (.iastore, 1) := by decide +kernel
theorem dX3_skew_33 : decode cX3_skew 33 = .ok (.iconst 0, 1) := by decide +kernel
theorem dX3_skew_34 : decode cX3_skew 34 = .ok (.istore_n 3, 1) := by decide +kernel
theorem dX3_skew_35 : decode cX3_skew 35 = .ok (.iconst 0, 1) := by decide +kernel
theorem dX3_skew_36 : decode cX3_skew 36 = .ok (.istore 4, 2) := by decide +kernel
theorem dX3_skew_38 : decode cX3_skew 38 = .ok (.iload 4, 2) := by decide +kernel
theorem dX3_skew_40 : decode cX3_skew 40 = .ok (.iconst 5, 1) := by decide +kernel
theorem dX3_skew_41 : decode cX3_skew 41 = .ok (.if_icmp .ge 56, 3) := by decide +kernel
theorem dX3_skew_44 : decode cX3_skew 44 = .ok (.iload_n 3, 1) := by decide +kernel
theorem dX3_skew_45 : decode cX3_skew 45 = .ok (.aload_n 0, 1) := by decide +kernel
theorem dX3_skew_46 : decode cX3_skew 46 = .ok (.getfield 7, 3) := by decide +kernel
theorem dX3_skew_49 : decode cX3_skew 49 = .ok (.bipush 47, 2) := by decide +kernel
theorem dX3_skew_51 : decode cX3_skew 51 = .ok (.iload 4, 2) := by decide +kernel
theorem dX3_skew_53 : decode cX3_skew 53 = .ok (.iadd, 1) := by decide +kernel
theorem dX3_skew_54 : decode cX3_skew 54 = .ok (.iaload, 1) := by decide +kernel
theorem dX3_skew_55 : decode cX3_skew 55 = .ok (.aload_n 0, 1) := by decide +kernel
theorem dX3_skew_56 : decode cX3_skew 56 = .ok (.getfield 7, 3) := by decide +kernel
theorem dX3_skew_59 : decode cX3_skew 59 = .ok (.iconst 3, 1) := by decide +kernel
theorem dX3_skew_60 : decode cX3_skew 60 = .ok (.iaload, 1) := by decide +kernel
theorem dX3_skew_61 : decode cX3_skew 61 = .ok (.if_icmp .gt 23, 3) := by decide +kernel
theorem dX3_skew_64 : decode cX3_skew 64 = .ok (.aload_n 0, 1) := by decide +kernel
theorem dX3_skew_65 : decode cX3_skew 65 = .ok (.getfield 7, 3) := by decide +kernel
theorem dX3_skew_68 : decode cX3_skew 68 = .ok (.bipush 47, 2) := by decide +kernel
theorem dX3_skew_70 : decode cX3_skew 70 = .ok (.iload 4, 2) := by decide +kernel
theorem dX3_skew_72 : decode cX3_skew 72 = .ok (.iadd, 1) := by decide +kernel
theorem dX3_skew_73 : decode cX3_skew 73 = .ok (.iaload, 1) := by decide +kernel
theorem dX3_skew_74 : decode cX3_skew 74 = .ok (.aload_n 0, 1) := by decide +kernel
theorem dX3_skew_75 : decode cX3_skew 75 = .ok (.getfield 7, 3) := by decide +kernel
theorem dX3_skew_78 : decode cX3_skew 78 = .ok (.iconst 3, 1) := by decide +kernel
theorem dX3_skew_79 : decode cX3_skew 79 = .ok (.iaload, 1) := by decide +kernel
theorem dX3_skew_80 : decode cX3_skew 80 = .ok (.ineg, 1) := by decide +kernel
theorem dX3_skew_81 : decode cX3_skew 81 = .ok (.if_icmp .ge 7, 3) := by decide +kernel
theorem dX3_skew_84 : decode cX3_skew 84 = .ok (.iconst 1, 1) := by decide +kernel
theorem dX3_skew_85 : decode cX3_skew 85 = .ok (.goto 4, 3) := by decide +kernel
theorem dX3_skew_88 : decode cX3_skew 88 = .ok (.iconst 0, 1) := by decide +kernel
theorem dX3_skew_89 : decode cX3_skew 89 = .ok (.iadd, 1) := by decide +kernel
theorem dX3_skew_90 : decode cX3_skew 90 = .ok (.istore_n 3, 1) := by decide +kernel
theorem dX3_skew_91 : decode cX3_skew 91 = .ok (.iinc 4 1, 3) := by decide +kernel
theorem dX3_skew_94 : decode cX3_skew 94 = .ok (.goto (-56), 3) := by decide +kernel
theorem dX3_skew_97 : decode cX3_skew 97 = .ok (.iload_n 3, 1) := by decide +kernel
theorem dX3_skew_98 : decode cX3_skew 98 = .ok (.ireturn, 1) := by decide +kernel
theorem dX3_isOver_0 : decode cX3_isOver 0 = .ok (.aload_n 0, 1) := by decide +kernel
theorem dX3_isOver_1 : decode cX3_isOver 1 = .ok (.getfield 7, 3) := by decide +kernel
theorem dX3_isOver_4 : decode cX3_isOver 4 = .ok (.iconst 0, 1) := by decide +kernel
theorem dX3_isOver_5 : decode cX3_isOver 5 = .ok (.iaload, 1) := by decide +kernel
theorem dX3_isOver_6 : decode cX3_isOver 6 = .ok (.aload_n 0, 1) := by decide +kernel
theorem dX3_isOver_7 : decode cX3_isOver 7 = .ok (.getfield 7, 3) := by decide +kernel
theorem dX3_isOver_10 : decode cX3_isOver 10 = .ok (.bipush 47, 2) := by decide +kernel
theorem dX3_isOver_12 : decode cX3_isOver 12 = .ok (.iload_n 1, 1) := by decide +kernel
theorem dX3_isOver_13 : decode cX3_isOver 13 = .ok (.iadd, 1) := by decide +kernel
theorem dX3_isOver_14 : decode cX3_isOver 14 = .ok (.iaload, 1) := by decide +kernel
theorem dX3_isOver_15 : decode cX3_isOver 15 = .ok (.iadd, 1) := by decide +kernel
theorem dX3_isOver_16 : decode cX3_isOver 16 = .ok (.aload_n 0, 1) := by decide +kernel
theorem dX3_isOver_17 : decode cX3_isOver 17 = .ok (.getfield 7, 3) := by decide +kernel
theorem dX3_isOver_20 : decode cX3_isOver 20 = .ok (.iconst 3, 1) := by decide +kernel
theorem dX3_isOver_21 : decode cX3_isOver 21 = .ok (.iaload, 1) := by decide +kernel
theorem dX3_isOver_22 : decode cX3_isOver 22 = .ok (.iadd, 1) := by decide +kernel
theorem dX3_isOver_23 : decode cX3_isOver 23 = .ok (.iload_n 2, 1) := by decide +kernel
theorem dX3_isOver_24 : decode cX3_isOver 24 = .ok (.if_icmp .lt 7, 3) := by decide +kernel
theorem dX3_isOver_27 : decode cX3_isOver 27 = .ok (.iconst 1, 1) := by decide +kernel
theorem dX3_isOver_28 : decode cX3_isOver 28 = .ok (.goto 4, 3) := by decide +kernel
theorem dX3_isOver_31 : decode cX3_isOver 31 = .ok (.iconst 0, 1) := by decide +kernel
theorem dX3_isOver_32 : decode cX3_isOver 32 = .ok (.ireturn, 1) := by decide +kernel
set_option maxRecDepth 20000 in
theorem ggX3_canUse_X3_thingAt : GoodIn wsX3_canUse wsX3_thingAt := goodIn_r _ [5] (by decide +kernel) (by decide +kernel)
set_option maxRecDepth 20000 in
theorem gX3_canUse_X3_thingAt : GoodIn wsX3_canUse (va_wsS RX3 32 yX3_thingAt wsX3_thingAt) := goodIn_app (goodIn_of _ (by decide +kernel)) ggX3_canUse_X3_thingAt
set_option maxRecDepth 20000 in
theorem ggX3_canUse_X3_isOver : GoodIn wsX3_canUse wsX3_isOver := goodIn_r _ [9, 1, 13, 14, 15] (by decide +kernel) (by decide +kernel)
set_option maxRecDepth 20000 in
theorem gX3_canUse_X3_isOver : GoodIn wsX3_canUse (wsV RX3 36 RX3 yX3_isOver wsX3_isOver) := goodIn_app (goodIn_of _ (by decide +kernel)) ggX3_canUse_X3_isOver
set_option maxRecDepth 20000 in
theorem ggX3_canUse_X3_volumeAt : GoodIn wsX3_canUse wsX3_volumeAt := goodIn_r _ [12] (by decide +kernel) (by decide +kernel)
set_option maxRecDepth 20000 in
theorem gX3_canUse_X3_volumeAt : GoodIn wsX3_canUse (va_wsS RX3 40 yX3_volumeAt wsX3_volumeAt) := goodIn_app (goodIn_of _ (by decide +kernel)) ggX3_canUse_X3_volumeAt
theorem dX3_canUse_0 : decode cX3_canUse 0 = .ok (.aload_n 0, 1) := by decide +kernel
theorem dX3_canUse_1 : decode cX3_canUse 1 = .ok (.getfield 7, 3) := by decide +kernel
theorem dX3_canUse_4 : decode cX3_canUse 4 = .ok (.bipush 82, 2) := by decide +kernel
theorem dX3_canUse_6 : decode cX3_canUse 6 = .ok (.iload_n 1, 1) := by decide +kernel
theorem dX3_canUse_7 : decode cX3_canUse 7 = .ok (.iload_n 2, 1) := by decide +kernel
theorem dX3_canUse_8 : decode cX3_canUse 8 = .ok (.invokestatic 32, 3) := by decide +kernel
theorem dX3_canUse_11 : decode cX3_canUse 11 = .ok (.iaload, 1) := by decide +kernel
theorem dX3_canUse_12 : decode cX3_canUse 12 = .ok (.ifCond .lt 48, 3) := by decide +kernel
theorem dX3_canUse_15 : decode cX3_canUse 15 = .ok (.aload_n 0, 1) := by decide +kernel
theorem dX3_canUse_16 : decode cX3_canUse 16 = .ok (.iload_n 1, 1) := by decide +kernel
theorem dX3_canUse_17 : decode cX3_canUse 17 = .ok (.aload_n 0, 1) := by decide +kernel
theorem dX3_canUse_18 : decode cX3_canUse 18 = .ok (.getfield 7, 3) := by decide +kernel
theorem dX3_canUse_21 : decode cX3_canUse 21 = .ok (.sipush 142, 3) := by decide +kernel
theorem dX3_canUse_24 : decode cX3_canUse 24 = .ok (.iload_n 1, 1) := by decide +kernel
theorem dX3_canUse_25 : decode cX3_canUse 25 = .ok (.iload_n 2, 1) := by decide +kernel
theorem dX3_canUse_26 : decode cX3_canUse 26 = .ok (.invokestatic 32, 3) := by decide +kernel
theorem dX3_canUse_29 : decode cX3_canUse 29 = .ok (.iaload, 1) := by decide +kernel
theorem dX3_canUse_30 : decode cX3_canUse 30 = .ok (.invokevirtual 36, 3) := by decide +kernel
theorem dX3_canUse_33 : decode cX3_canUse 33 = .ok (.ifCond .ne 27, 3) := by decide +kernel
theorem dX3_canUse_36 : decode cX3_canUse 36 = .ok (.aload_n 0, 1) := by decide +kernel
theorem dX3_canUse_37 : decode cX3_canUse 37 = .ok (.iload_n 1, 1) := by decide +kernel
theorem dX3_canUse_38 : decode cX3_canUse 38 = .ok (.aload_n 0, 1) := by decide +kernel
theorem dX3_canUse_39 : decode cX3_canUse 39 = .ok (.getfield 7, 3) := by decide +kernel
theorem dX3_canUse_42 : decode cX3_canUse 42 = .ok (.bipush 52, 2) := by decide +kernel
theorem dX3_canUse_44 : decode cX3_canUse 44 = .ok (.iload_n 1, 1) := by decide +kernel
theorem dX3_canUse_45 : decode cX3_canUse 45 = .ok (.iload_n 2, 1) := by decide +kernel
theorem dX3_canUse_46 : decode cX3_canUse 46 = .ok (.invokestatic 40, 3) := by decide +kernel
theorem dX3_canUse_49 : decode cX3_canUse 49 = .ok (.iaload, 1) := by decide +kernel
theorem dX3_canUse_50 : decode cX3_canUse 50 = .ok (.invokevirtual 36, 3) := by decide +kernel
theorem dX3_canUse_53 : decode cX3_canUse 53 = .ok (.ifCond .ne 7, 3) := by decide +kernel
theorem dX3_canUse_56 : decode cX3_canUse 56 = .ok (.iconst 1, 1) := by decide +kernel
theorem dX3_canUse_57 : decode cX3_canUse 57 = .ok (.goto 4, 3) := by decide +kernel
theorem dX3_canUse_60 : decode cX3_canUse 60 = .ok (.iconst 0, 1) := by decide +kernel
theorem dX3_canUse_61 : decode cX3_canUse 61 = .ok (.ireturn, 1) := by decide +kernel
set_option maxRecDepth 20000 in
theorem ggX3_isHolder_X3_thingAt : GoodIn wsX3_isHolder wsX3_thingAt := goodIn_r _ [5] (by decide +kernel) (by decide +kernel)
set_option maxRecDepth 20000 in
theorem gX3_isHolder_X3_thingAt : GoodIn wsX3_isHolder (va_wsS RX3 32 yX3_thingAt wsX3_thingAt) := goodIn_app (goodIn_of _ (by decide +kernel)) ggX3_isHolder_X3_thingAt
theorem dX3_isHolder_0 : decode cX3_isHolder 0 = .ok (.aload_n 0, 1) := by decide +kernel
theorem dX3_isHolder_1 : decode cX3_isHolder 1 = .ok (.getfield 7, 3) := by decide +kernel
theorem dX3_isHolder_4 : decode cX3_isHolder 4 = .ok (.sipush 202, 3) := by decide +kernel
theorem dX3_isHolder_7 : decode cX3_isHolder 7 = .ok (.iload_n 1, 1) := by decide +kernel
theorem dX3_isHolder_8 : decode cX3_isHolder 8 = .ok (.iload_n 2, 1) := by decide +kernel
theorem dX3_isHolder_9 : decode cX3_isHolder 9 = .ok (.invokestatic 32, 3) := by decide +kernel
theorem dX3_isHolder_12 : decode cX3_isHolder 12 = .ok (.iaload, 1) := by decide +kernel
theorem dX3_isHolder_13 : decode cX3_isHolder 13 = .ok (.aload_n 0, 1) := by decide +kernel
theorem dX3_isHolder_14 : decode cX3_isHolder 14 = .ok (.getfield 7, 3) := by decide +kernel
theorem dX3_isHolder_17 : decode cX3_isHolder 17 = .ok (.iconst 0, 1) := by decide +kernel
theorem dX3_isHolder_18 : decode cX3_isHolder 18 = .ok (.iaload, 1) := by decide +kernel
theorem dX3_isHolder_19 : decode cX3_isHolder 19 = .ok (.if_icmp .le 7, 3) := by decide +kernel
theorem dX3_isHolder_22 : decode cX3_isHolder 22 = .ok (.iconst 1, 1) := by decide +kernel
theorem dX3_isHolder_23 : decode cX3_isHolder 23 = .ok (.goto 4, 3) := by decide +kernel
theorem dX3_isHolder_26 : decode cX3_isHolder 26 = .ok (.iconst 0, 1) := by decide +kernel
theorem dX3_isHolder_27 : decode cX3_isHolder 27 = .ok (.ireturn, 1) := by decide +kernel
set_option maxRecDepth 20000 in
theorem ggX3_clear_X3_thingAt : GoodIn wsX3_clear wsX3_thingAt := goodIn_r _ [5] (by decide +kernel) (by decide +kernel)
set_option maxRecDepth 20000 in
theorem gX3_clear_X3_thingAt : GoodIn wsX3_clear (va_wsS RX3 32 yX3_thingAt wsX3_thingAt) := goodIn_app (goodIn_of _ (by decide +kernel)) ggX3_clear_X3_thingAt
theorem dX3_clear_0 : decode cX3_clear 0 = .ok (.aload_n 0, 1) := by decide +kernel
theorem dX3_clear_1 : decode cX3_clear 1 = .ok (.getfield 7, 3) := by decide +kernel
theorem dX3_clear_4 : decode cX3_clear 4 = .ok (.bipush 82, 2) := by decide +kernel
theorem dX3_clear_6 : decode cX3_clear 6 = .ok (.iload_n 1, 1) := by decide +kernel
theorem dX3_clear_7 : decode cX3_clear 7 = .ok (.iload_n 2, 1) := by decide +kernel
theorem dX3_clear_8 : decode cX3_clear 8 = .ok (.invokestatic 32, 3) := by decide +kernel
theorem dX3_clear_11 : decode cX3_clear 11 = .ok (.bipush (-6), 2) := by decide +kernel
theorem dX3_clear_13 : decode cX3_clear 13 = .ok (.iastore, 1) := by decide +kernel
theorem dX3_clear_14 : decode cX3_clear 14 = .ok (.aload_n 0, 1) := by decide +kernel
theorem dX3_clear_15 : decode cX3_clear 15 = .ok (.getfield 7, 3) := by decide +kernel
theorem dX3_clear_18 : decode cX3_clear 18 = .ok (.sipush 142, 3) := by decide +kernel
theorem dX3_clear_21 : decode cX3_clear 21 = .ok (.iload_n 1, 1) := by decide +kernel
theorem dX3_clear_22 : decode cX3_clear 22 = .ok (.iload_n 2, 1) := by decide +kernel
theorem dX3_clear_23 : decode cX3_clear 23 = .ok (.invokestatic 32, 3) := by decide +kernel
theorem dX3_clear_26 : decode cX3_clear 26 = .ok (.iconst 0, 1) := by decide +kernel
theorem dX3_clear_27 : decode cX3_clear 27 = .ok (.iastore, 1) := by decide +kernel
theorem dX3_clear_28 : decode cX3_clear 28 = .ok (.aload_n 0, 1) := by decide +kernel
theorem dX3_clear_29 : decode cX3_clear 29 = .ok (.getfield 7, 3) := by decide +kernel
theorem dX3_clear_32 : decode cX3_clear 32 = .ok (.sipush 202, 3) := by decide +kernel
theorem dX3_clear_35 : decode cX3_clear 35 = .ok (.iload_n 1, 1) := by decide +kernel
theorem dX3_clear_36 : decode cX3_clear 36 = .ok (.iload_n 2, 1) := by decide +kernel
theorem dX3_clear_37 : decode cX3_clear 37 = .ok (.invokestatic 32, 3) := by decide +kernel
theorem dX3_clear_40 : decode cX3_clear 40 = .ok (.iconst 0, 1) := by decide +kernel
theorem dX3_clear_41 : decode cX3_clear 41 = .ok (.iastore, 1) := by decide +kernel
theorem dX3_clear_42 : decode cX3_clear 42 = .ok (.return_, 1) := by decide +kernel
set_option maxRecDepth 20000 in
theorem ggX3_isSettled_X3_isHolder : GoodIn wsX3_isSettled wsX3_isHolder := goodIn_r _ [6, 1, 7, 8, 5, 9, 20, 21, 22] (by decide +kernel) (by decide +kernel)
set_option maxRecDepth 20000 in
theorem gX3_isSettled_X3_isHolder : GoodIn wsX3_isSettled (wsV RX3 43 RX3 yX3_isHolder wsX3_isHolder) := goodIn_app (goodIn_of _ (by decide +kernel)) ggX3_isSettled_X3_isHolder
set_option maxRecDepth 20000 in
theorem ggX3_isSettled_X3_volumeAt : GoodIn wsX3_isSettled wsX3_volumeAt := goodIn_r _ [12] (by decide +kernel) (by decide +kernel)
set_option maxRecDepth 20000 in
theorem gX3_isSettled_X3_volumeAt : GoodIn wsX3_isSettled (va_wsS RX3 40 yX3_volumeAt wsX3_volumeAt) := goodIn_app (goodIn_of _ (by decide +kernel)) ggX3_isSettled_X3_volumeAt
set_option maxRecDepth 20000 in
theorem ggX3_isSettled_X3_thingAt : GoodIn wsX3_isSettled wsX3_thingAt := goodIn_r _ [9] (by decide +kernel) (by decide +kernel)
set_option maxRecDepth 20000 in
theorem gX3_isSettled_X3_thingAt : GoodIn wsX3_isSettled (va_wsS RX3 32 yX3_thingAt wsX3_thingAt) := goodIn_app (goodIn_of _ (by decide +kernel)) ggX3_isSettled_X3_thingAt
set_option maxRecDepth 20000 in
theorem ggX3_isSettled_X3_said : GoodIn wsX3_isSettled wsX3_said := goodIn_r _ [15] (by decide +kernel) (by decide +kernel)
set_option maxRecDepth 20000 in
theorem gX3_isSettled_X3_said : GoodIn wsX3_isSettled (va_wsS RX3 20 yX3_said wsX3_said) := goodIn_app (goodIn_of _ (by decide +kernel)) ggX3_isSettled_X3_said
set_option maxRecDepth 20000 in
theorem ggX3_isSettled_X3_clear : GoodIn wsX3_isSettled wsX3_clear := goodIn_r _ [19, 1, 7, 8, 5, 9, 20, 21, 22] (by decide +kernel) (by decide +kernel)
set_option maxRecDepth 20000 in
theorem gX3_isSettled_X3_clear : GoodIn wsX3_isSettled (wsV RX3 46 RX3 yX3_clear wsX3_clear) := goodIn_app (goodIn_of _ (by decide +kernel)) ggX3_isSettled_X3_clear
theorem dX3_isSettled_0 : decode cX3_isSettled 0 = .ok (.iconst 1, 1) := by decide +kernel
theorem dX3_isSettled_1 : decode cX3_isSettled 1 = .ok (.istore_n 2, 1) := by decide +kernel
theorem dX3_isSettled_2 : decode cX3_isSettled 2 = .ok (.iconst 0, 1) := by decide +kernel
theorem dX3_isSettled_3 : decode cX3_isSettled 3 = .ok (.istore_n 3, 1) := by decide +kernel
theorem dX3_isSettled_4 : decode cX3_isSettled 4 = .ok (.iload_n 3, 1) := by decide +kernel
theorem dX3_isSettled_5 : decode cX3_isSettled 5 = .ok (.iconst 5, 1) := by decide +kernel
theorem dX3_isSettled_6 : decode cX3_isSettled 6 = .ok (.if_icmp .ge 171, 3) := by decide +kernel
theorem dX3_isSettled_9 : decode cX3_isSettled 9 = .ok (.aload_n 0, 1) := by decide +kernel
theorem dX3_isSettled_10 : decode cX3_isSettled 10 = .ok (.iload_n 3, 1) := by decide +kernel
theorem dX3_isSettled_11 : decode cX3_isSettled 11 = .ok (.iload_n 1, 1) := by decide +kernel
theorem dX3_isSettled_12 : decode cX3_isSettled 12 = .ok (.invokevirtual 43, 3) := by decide +kernel
theorem dX3_isSettled_15 : decode cX3_isSettled 15 = .ok (.ifCond .eq 156, 3) := by decide +kernel
theorem dX3_isSettled_18 : decode cX3_isSettled 18 = .ok (.aload_n 0, 1) := by decide +kernel
theorem dX3_isSettled_19 : decode cX3_isSettled 19 = .ok (.getfield 7, 3) := by decide +kernel
theorem dX3_isSettled_22 : decode cX3_isSettled 22 = .ok (.bipush 52, 2) := by decide +kernel
theorem dX3_isSettled_24 : decode cX3_isSettled 24 = .ok (.iload_n 3, 1) := by decide +kernel
theorem dX3_isSettled_25 : decode cX3_isSettled 25 = .ok (.iload_n 1, 1) := by decide +kernel
theorem dX3_isSettled_26 : decode cX3_isSettled 26 = .ok (.invokestatic 40, 3) := by decide +kernel
theorem dX3_isSettled_29 : decode cX3_isSettled 29 = .ok (.iaload, 1) := by decide +kernel
theorem dX3_isSettled_30 : decode cX3_isSettled 30 = .ok (.aload_n 0, 1) := by decide +kernel
theorem dX3_isSettled_31 : decode cX3_isSettled 31 = .ok (.getfield 7, 3) := by decide +kernel
theorem dX3_isSettled_34 : decode cX3_isSettled 34 = .ok (.iconst 0, 1) := by decide +kernel
theorem dX3_isSettled_35 : decode cX3_isSettled 35 = .ok (.iaload, 1) := by decide +kernel
theorem dX3_isSettled_36 : decode cX3_isSettled 36 = .ok (.if_icmp .gt 72, 3) := by decide +kernel
theorem dX3_isSettled_39 : decode cX3_isSettled 39 = .ok (.bipush 67, 2) := by decide +kernel
theorem dX3_isSettled_41 : decode cX3_isSettled 41 = .ok (.iload_n 3, 1) := by decide +kernel
theorem dX3_isSettled_42 : decode cX3_isSettled 42 = .ok (.iload_n 1, 1) := by decide +kernel
theorem dX3_isSettled_43 : decode cX3_isSettled 43 = .ok (.invokestatic 40, 3) := by decide +kernel
theorem dX3_isSettled_46 : decode cX3_isSettled 46 = .ok (.istore 4, 2) := by decide +kernel
theorem dX3_isSettled_48 : decode cX3_isSettled 48 = .ok (.aload_n 0, 1) := by decide +kernel
theorem dX3_isSettled_49 : decode cX3_isSettled 49 = .ok (.getfield 7, 3) := by decide +kernel
theorem dX3_isSettled_52 : decode cX3_isSettled 52 = .ok (.sipush 307, 3) := by decide +kernel
theorem dX3_isSettled_55 : decode cX3_isSettled 55 = .ok (.dup2, 1) := by decide +kernel
theorem dX3_isSettled_56 : decode cX3_isSettled 56 = .ok (.iaload, 1) := by decide +kernel
theorem dX3_isSettled_57 : decode cX3_isSettled 57 = .ok (.aload_n 0, 1) := by decide +kernel
theorem dX3_isSettled_58 : decode cX3_isSettled 58 = .ok (.getfield 7, 3) := by decide +kernel
theorem dX3_isSettled_61 : decode cX3_isSettled 61 = .ok (.iload 4, 2) := by decide +kernel
theorem dX3_isSettled_63 : decode cX3_isSettled 63 = .ok (.iaload, 1) := by decide +kernel
theorem dX3_isSettled_64 : decode cX3_isSettled 64 = .ok (.iload_n 1, 1) := by decide +kernel
theorem dX3_isSettled_65 : decode cX3_isSettled 65 = .ok (.ishr, 1) := by decide +kernel
theorem dX3_isSettled_66 : decode cX3_isSettled 66 = .ok (.iconst 1, 1) := by decide +kernel
theorem dX3_isSettled_67 : decode cX3_isSettled 67 = .ok (.iand, 1) := by decide +kernel
theorem dX3_isSettled_68 : decode cX3_isSettled 68 = .ok (.ifCond .ne 7, 3) := by decide +kernel
theorem dX3_isSettled_71 : decode cX3_isSettled 71 = .ok (.iconst 1, 1) := by decide +kernel
theorem dX3_isSettled_72 : decode cX3_isSettled 72 = .ok (.goto 4, 3) := by decide +kernel
theorem dX3_isSettled_75 : decode cX3_isSettled 75 = .ok (.iconst 0, 1) := by decide +kernel
theorem dX3_isSettled_76 : decode cX3_isSettled 76 = .ok (.iadd, 1) := by decide +kernel
theorem dX3_isSettled_77 : decode cX3_isSettled 77 = .ok (.iastore, 1) := by decide +kernel
theorem dX3_isSettled_78 : decode cX3_isSettled 78 = .ok (.aload_n 0, 1) := by decide +kernel
theorem dX3_isSettled_79 : decode cX3_isSettled 79 = .ok (.getfield 7, 3) := by decide +kernel
theorem dX3_isSettled_82 : decode cX3_isSettled 82 = .ok (.iload 4, 2) := by decide +kernel
theorem dX3_isSettled_84 : decode cX3_isSettled 84 = .ok (.dup2, 1) := by decide +kernel
theorem dX3_isSettled_85 : decode cX3_isSettled 85 = .ok (.iaload, 1) := by decide +kernel
theorem dX3_isSettled_86 : decode cX3_isSettled 86 = .ok (.iconst 1, 1) := by decide +kernel
theorem dX3_isSettled_87 : decode cX3_isSettled 87 = .ok (.iload_n 1, 1) := by decide +kernel
theorem dX3_isSettled_88 : decode cX3_isSettled 88 = .ok (.ishl, 1) := by decide +kernel
theorem dX3_isSettled_89 : decode cX3_isSettled 89 = .ok (.ior, 1) := by decide +kernel
theorem dX3_isSettled_90 : decode cX3_isSettled 90 = .ok (.iastore, 1) := by decide +kernel
theorem dX3_isSettled_91 : decode cX3_isSettled 91 = .ok (.aload_n 0, 1) := by decide +kernel
theorem dX3_isSettled_92 : decode cX3_isSettled 92 = .ok (.getfield 7, 3) := by decide +kernel
theorem dX3_isSettled_95 : decode cX3_isSettled 95 = .ok (.sipush 202, 3) := by decide +kernel
theorem dX3_isSettled_98 : decode cX3_isSettled 98 = .ok (.iload_n 3, 1) := by decide +kernel
theorem dX3_isSettled_99 : decode cX3_isSettled 99 = .ok (.iload_n 1, 1) := by decide +kernel
theorem dX3_isSettled_100 : decode cX3_isSettled 100 = .ok (.invokestatic 32, 3) := by decide +kernel
theorem dX3_isSettled_103 : decode cX3_isSettled 103 = .ok (.iconst 0, 1) := by decide +kernel
theorem dX3_isSettled_104 : decode cX3_isSettled 104 = .ok (.iastore, 1) := by decide +kernel
theorem dX3_isSettled_105 : decode cX3_isSettled 105 = .ok (.goto 66, 3) := by decide +kernel
theorem dX3_isSettled_108 : decode cX3_isSettled 108 = .ok (.aload_n 0, 1) := by decide +kernel
theorem dX3_isSettled_109 : decode cX3_isSettled 109 = .ok (.getfield 7, 3) := by decide +kernel
theorem dX3_isSettled_112 : decode cX3_isSettled 112 = .ok (.bipush 17, 2) := by decide +kernel
theorem dX3_isSettled_114 : decode cX3_isSettled 114 = .ok (.iload_n 1, 1) := by decide +kernel
theorem dX3_isSettled_115 : decode cX3_isSettled 115 = .ok (.iadd, 1) := by decide +kernel
theorem dX3_isSettled_116 : decode cX3_isSettled 116 = .ok (.iaload, 1) := by decide +kernel
theorem dX3_isSettled_117 : decode cX3_isSettled 117 = .ok (.iconst 1, 1) := by decide +kernel
theorem dX3_isSettled_118 : decode cX3_isSettled 118 = .ok (.if_icmp .ne 51, 3) := by decide +kernel
theorem dX3_isSettled_121 : decode cX3_isSettled 121 = .ok (.aload_n 0, 1) := by decide +kernel
theorem dX3_isSettled_122 : decode cX3_isSettled 122 = .ok (.getfield 7, 3) := by decide +kernel
theorem dX3_isSettled_125 : decode cX3_isSettled 125 = .ok (.bipush 42, 2) := by decide +kernel
theorem dX3_isSettled_127 : decode cX3_isSettled 127 = .ok (.iload_n 3, 1) := by decide +kernel
theorem dX3_isSettled_128 : decode cX3_isSettled 128 = .ok (.iadd, 1) := by decide +kernel
theorem dX3_isSettled_129 : decode cX3_isSettled 129 = .ok (.iaload, 1) := by decide +kernel
theorem dX3_isSettled_130 : decode cX3_isSettled 130 = .ok (.iconst 1, 1) := by decide +kernel
theorem dX3_isSettled_131 : decode cX3_isSettled 131 = .ok (.if_icmp .ne 38, 3) := by decide +kernel
theorem dX3_isSettled_134 : decode cX3_isSettled 134 = .ok (.aload_n 0, 1) := by decide +kernel
theorem dX3_isSettled_135 : decode cX3_isSettled 135 = .ok (.getfield 7, 3) := by decide +kernel
theorem dX3_isSettled_138 : decode cX3_isSettled 138 = .ok (.sipush 306, 3) := by decide +kernel
theorem dX3_isSettled_141 : decode cX3_isSettled 141 = .ok (.dup2, 1) := by decide +kernel
theorem dX3_isSettled_142 : decode cX3_isSettled 142 = .ok (.iaload, 1) := by decide +kernel
theorem dX3_isSettled_143 : decode cX3_isSettled 143 = .ok (.iconst 1, 1) := by decide +kernel
theorem dX3_isSettled_144 : decode cX3_isSettled 144 = .ok (.iadd, 1) := by decide +kernel
theorem dX3_isSettled_145 : decode cX3_isSettled 145 = .ok (.iastore, 1) := by decide +kernel
theorem dX3_isSettled_146 : decode cX3_isSettled 146 = .ok (.aload_n 0, 1) := by decide +kernel
theorem dX3_isSettled_147 : decode cX3_isSettled 147 = .ok (.getfield 7, 3) := by decide +kernel
theorem dX3_isSettled_150 : decode cX3_isSettled 150 = .ok (.iload_n 3, 1) := by decide +kernel
theorem dX3_isSettled_151 : decode cX3_isSettled 151 = .ok (.iconst 4, 1) := by decide +kernel
theorem dX3_isSettled_152 : decode cX3_isSettled 152 = .ok (.invokestatic 20, 3) := by decide +kernel
theorem dX3_isSettled_155 : decode cX3_isSettled 155 = .ok (.dup2, 1) := by decide +kernel
theorem dX3_isSettled_156 : decode cX3_isSettled 156 = .ok (.iaload, 1) := by decide +kernel
theorem dX3_isSettled_157 : decode cX3_isSettled 157 = .ok (.iconst 1, 1) := by decide +kernel
theorem dX3_isSettled_158 : decode cX3_isSettled 158 = .ok (.iadd, 1) := by decide +kernel
theorem dX3_isSettled_159 : decode cX3_isSettled 159 = .ok (.iastore, 1) := by decide +kernel
theorem dX3_isSettled_160 : decode cX3_isSettled 160 = .ok (.aload_n 0, 1) := by decide +kernel
theorem dX3_isSettled_161 : decode cX3_isSettled 161 = .ok (.iload_n 3, 1) := by decide +kernel
theorem dX3_isSettled_162 : decode cX3_isSettled 162 = .ok (.iload_n 1, 1) := by decide +kernel
theorem dX3_isSettled_163 : decode cX3_isSettled 163 = .ok (.invokevirtual 46, 3) := by decide +kernel
theorem dX3_isSettled_166 : decode cX3_isSettled 166 = .ok (.goto 5, 3) := by decide +kernel
theorem dX3_isSettled_169 : decode cX3_isSettled 169 = .ok (.iconst 0, 1) := by decide +kernel
theorem dX3_isSettled_170 : decode cX3_isSettled 170 = .ok (.istore_n 2, 1) := by decide +kernel
theorem dX3_isSettled_171 : decode cX3_isSettled 171 = .ok (.iinc 3 1, 3) := by decide +kernel
theorem dX3_isSettled_174 : decode cX3_isSettled 174 = .ok (.goto (-170), 3) := by decide +kernel
theorem dX3_isSettled_177 : decode cX3_isSettled 177 = .ok (.iload_n 2, 1) := by decide +kernel
theorem dX3_isSettled_178 : decode cX3_isSettled 178 = .ok (.ifCond .eq 38, 3) := by decide +kernel
theorem dX3_isSettled_181 : decode cX3_isSettled 181 = .ok (.aload_n 0, 1) := by decide +kernel
theorem dX3_isSettled_182 : decode cX3_isSettled 182 = .ok (.getfield 7, 3) := by decide +kernel
theorem dX3_isSettled_185 : decode cX3_isSettled 185 = .ok (.iconst 5, 1) := by decide +kernel
theorem dX3_isSettled_186 : decode cX3_isSettled 186 = .ok (.iload_n 1, 1) := by decide +kernel
theorem dX3_isSettled_187 : decode cX3_isSettled 187 = .ok (.iadd, 1) := by decide +kernel
theorem dX3_isSettled_188 : decode cX3_isSettled 188 = .ok (.dup2, 1) := by decide +kernel
theorem dX3_isSettled_189 : decode cX3_isSettled 189 = .ok (.iaload, 1) := by decide +kernel
theorem dX3_isSettled_190 : decode cX3_isSettled 190 = .ok (.iconst 1, 1) := by decide +kernel
theorem dX3_isSettled_191 : decode cX3_isSettled 191 = .ok (.iadd, 1) := by decide +kernel
theorem dX3_isSettled_192 : decode cX3_isSettled 192 = .ok (.iastore, 1) := by decide +kernel
theorem dX3_isSettled_193 : decode cX3_isSettled 193 = .ok (.aload_n 0, 1) := by decide +kernel
theorem dX3_isSettled_194 : decode cX3_isSettled 194 = .ok (.getfield 7, 3) := by decide +kernel
theorem dX3_isSettled_197 : decode cX3_isSettled 197 = .ok (.bipush 17, 2) := by decide +kernel
theorem dX3_isSettled_199 : decode cX3_isSettled 199 = .ok (.iload_n 1, 1) := by decide +kernel
theorem dX3_isSettled_200 : decode cX3_isSettled 200 = .ok (.iadd, 1) := by decide +kernel
theorem dX3_isSettled_201 : decode cX3_isSettled 201 = .ok (.bipush (-6), 2) := by decide +kernel
theorem dX3_isSettled_203 : decode cX3_isSettled 203 = .ok (.iastore, 1) := by decide +kernel
theorem dX3_isSettled_204 : decode cX3_isSettled 204 = .ok (.aload_n 0, 1) := by decide +kernel
theorem dX3_isSettled_205 : decode cX3_isSettled 205 = .ok (.getfield 7, 3) := by decide +kernel
theorem dX3_isSettled_208 : decode cX3_isSettled 208 = .ok (.sipush 305, 3) := by decide +kernel
theorem dX3_isSettled_211 : decode cX3_isSettled 211 = .ok (.dup2, 1) := by decide +kernel
theorem dX3_isSettled_212 : decode cX3_isSettled 212 = .ok (.iaload, 1) := by decide +kernel
theorem dX3_isSettled_213 : decode cX3_isSettled 213 = .ok (.iconst 1, 1) := by decide +kernel
theorem dX3_isSettled_214 : decode cX3_isSettled 214 = .ok (.iadd, 1) := by decide +kernel
theorem dX3_isSettled_215 : decode cX3_isSettled 215 = .ok (.iastore, 1) := by decide +kernel
theorem dX3_isSettled_216 : decode cX3_isSettled 216 = .ok (.iload_n 2, 1) := by decide +kernel
theorem dX3_isSettled_217 : decode cX3_isSettled 217 = .ok (.ireturn, 1) := by decide +kernel
set_option maxRecDepth 20000 in
theorem ggX3_settleAll_X3_isSettled : GoodIn wsX3_settleAll wsX3_isSettled := goodIn_r _ [6, 1, 7, 8, 9, 5, 10, 11, 12, 13, 14, 15, 16, 17, 18, 19, 20, 21, 22, 23, 24, 25, 26] (by decide +kernel) (by decide +kernel)
set_option maxRecDepth 20000 in
theorem gX3_settleAll_X3_isSettled : GoodIn wsX3_settleAll (wsV RX3 50 RX3 yX3_isSettled wsX3_isSettled) := goodIn_app (goodIn_of _ (by decide +kernel)) ggX3_settleAll_X3_isSettled
theorem dX3_settleAll_0 : decode cX3_settleAll 0 = .ok (.iconst 0, 1) := by decide +kernel
theorem dX3_settleAll_1 : decode cX3_settleAll 1 = .ok (.istore_n 1, 1) := by decide +kernel
theorem dX3_settleAll_2 : decode cX3_settleAll 2 = .ok (.aload_n 0, 1) := by decide +kernel
theorem dX3_settleAll_3 : decode cX3_settleAll 3 = .ok (.getfield 7, 3) := by decide +kernel
theorem dX3_settleAll_6 : decode cX3_settleAll 6 = .ok (.bipush 41, 2) := by decide +kernel
theorem dX3_settleAll_8 : decode cX3_settleAll 8 = .ok (.iaload, 1) := by decide +kernel
theorem dX3_settleAll_9 : decode cX3_settleAll 9 = .ok (.istore_n 2, 1) := by decide +kernel
theorem dX3_settleAll_10 : decode cX3_settleAll 10 = .ok (.iconst 0, 1) := by decide +kernel
theorem dX3_settleAll_11 : decode cX3_settleAll 11 = .ok (.istore_n 3, 1) := by decide +kernel
theorem dX3_settleAll_12 : decode cX3_settleAll 12 = .ok (.iload_n 3, 1) := by decide +kernel
theorem dX3_settleAll_13 : decode cX3_settleAll 13 = .ok (.iload_n 2, 1) := by decide +kernel
theorem dX3_settleAll_14 : decode cX3_settleAll 14 = .ok (.if_icmp .ge 43, 3) := by decide +kernel
theorem dX3_settleAll_17 : decode cX3_settleAll 17 = .ok (.aload_n 0, 1) := by decide +kernel
theorem dX3_settleAll_18 : decode cX3_settleAll 18 = .ok (.getfield 7, 3) := by decide +kernel
theorem dX3_settleAll_21 : decode cX3_settleAll 21 = .ok (.bipush 29, 2) := by decide +kernel
theorem dX3_settleAll_23 : decode cX3_settleAll 23 = .ok (.iload_n 3, 1) := by decide +kernel
theorem dX3_settleAll_24 : decode cX3_settleAll 24 = .ok (.iadd, 1) := by decide +kernel
theorem dX3_settleAll_25 : decode cX3_settleAll 25 = .ok (.iaload, 1) := by decide +kernel
theorem dX3_settleAll_26 : decode cX3_settleAll 26 = .ok (.istore 4, 2) := by decide +kernel
theorem dX3_settleAll_28 : decode cX3_settleAll 28 = .ok (.aload_n 0, 1) := by decide +kernel
theorem dX3_settleAll_29 : decode cX3_settleAll 29 = .ok (.iload 4, 2) := by decide +kernel
theorem dX3_settleAll_31 : decode cX3_settleAll 31 = .ok (.invokevirtual 50, 3) := by decide +kernel
theorem dX3_settleAll_34 : decode cX3_settleAll 34 = .ok (.ifCond .ne 17, 3) := by decide +kernel
theorem dX3_settleAll_37 : decode cX3_settleAll 37 = .ok (.aload_n 0, 1) := by decide +kernel
theorem dX3_settleAll_38 : decode cX3_settleAll 38 = .ok (.getfield 7, 3) := by decide +kernel
theorem dX3_settleAll_41 : decode cX3_settleAll 41 = .ok (.bipush 29, 2) := by decide +kernel
theorem dX3_settleAll_43 : decode cX3_settleAll 43 = .ok (.iload_n 1, 1) := by decide +kernel
theorem dX3_settleAll_44 : decode cX3_settleAll 44 = .ok (.iadd, 1) := by decide +kernel
theorem dX3_settleAll_45 : decode cX3_settleAll 45 = .ok (.iload 4, 2) := by decide +kernel
theorem dX3_settleAll_47 : decode cX3_settleAll 47 = .ok (.iastore, 1) := by decide +kernel
theorem dX3_settleAll_48 : decode cX3_settleAll 48 = .ok (.iinc 1 1, 3) := by decide +kernel
theorem dX3_settleAll_51 : decode cX3_settleAll 51 = .ok (.iinc 3 1, 3) := by decide +kernel
theorem dX3_settleAll_54 : decode cX3_settleAll 54 = .ok (.goto (-42), 3) := by decide +kernel
theorem dX3_settleAll_57 : decode cX3_settleAll 57 = .ok (.aload_n 0, 1) := by decide +kernel
theorem dX3_settleAll_58 : decode cX3_settleAll 58 = .ok (.getfield 7, 3) := by decide +kernel
theorem dX3_settleAll_61 : decode cX3_settleAll 61 = .ok (.bipush 41, 2) := by decide +kernel
theorem dX3_settleAll_63 : decode cX3_settleAll 63 = .ok (.iload_n 1, 1) := by decide +kernel
theorem dX3_settleAll_64 : decode cX3_settleAll 64 = .ok (.iastore, 1) := by decide +kernel
theorem dX3_settleAll_65 : decode cX3_settleAll 65 = .ok (.iload_n 2, 1) := by decide +kernel
theorem dX3_settleAll_66 : decode cX3_settleAll 66 = .ok (.iload_n 1, 1) := by decide +kernel
theorem dX3_settleAll_67 : decode cX3_settleAll 67 = .ok (.isub, 1) := by decide +kernel
theorem dX3_settleAll_68 : decode cX3_settleAll 68 = .ok (.ireturn, 1) := by decide +kernel
set_option maxRecDepth 20000 in
theorem ggX3_there_X3_isReader : GoodIn wsX3_there wsX3_isReader := goodIn_r _ [5, 6, 7, 4, 8] (by decide +kernel) (by decide +kernel)
set_option maxRecDepth 20000 in
theorem gX3_there_X3_isReader : GoodIn wsX3_there (va_wsS RX3 28 yX3_isReader wsX3_isReader) := goodIn_app (goodIn_of _ (by decide +kernel)) ggX3_there_X3_isReader
set_option maxRecDepth 20000 in
theorem ggX3_there_X3_in : GoodIn wsX3_there wsX3_in := goodIn_r _ [8] (by decide +kernel) (by decide +kernel)
set_option maxRecDepth 20000 in
theorem gX3_there_X3_in : GoodIn wsX3_there (va_wsS RX3 24 yX3_in wsX3_in) := goodIn_app (goodIn_of _ (by decide +kernel)) ggX3_there_X3_in
set_option maxRecDepth 20000 in
theorem ggX3_there_X3_settleAll : GoodIn wsX3_there wsX3_settleAll := goodIn_r _ [12, 1, 13, 14, 15, 4, 16, 17, 18, 19, 20, 21, 22, 23, 24, 25, 26, 27, 28, 29, 30, 31, 32, 33, 34, 35, 36] (by decide +kernel) (by decide +kernel)
set_option maxRecDepth 20000 in
theorem gX3_there_X3_settleAll : GoodIn wsX3_there (wsV RX3 53 RX3 yX3_settleAll wsX3_settleAll) := goodIn_app (goodIn_of _ (by decide +kernel)) ggX3_there_X3_settleAll
theorem dX3_there_0 : decode cX3_there 0 = .ok (.iload_n 1, 1) := by decide +kernel
theorem dX3_there_1 : decode cX3_there 1 = .ok (.invokestatic 28, 3) := by decide +kernel
theorem dX3_there_4 : decode cX3_there 4 = .ok (.ifCond .ne 5, 3) := by decide +kernel
theorem dX3_there_7 : decode cX3_there 7 = .ok (.iconst (-1), 1) := by decide +kernel
theorem dX3_there_8 : decode cX3_there 8 = .ok (.ireturn, 1) := by decide +kernel
theorem dX3_there_9 : decode cX3_there 9 = .ok (.iload_n 2, 1) := by decide +kernel
theorem dX3_there_10 : decode cX3_there 10 = .ok (.iconst 0, 1) := by decide +kernel
theorem dX3_there_11 : decode cX3_there 11 = .ok (.iconst 1, 1) := by decide +kernel
theorem dX3_there_12 : decode cX3_there 12 = .ok (.invokestatic 24, 3) := by decide +kernel
theorem dX3_there_15 : decode cX3_there 15 = .ok (.ifCond .ne 6, 3) := by decide +kernel
theorem dX3_there_18 : decode cX3_there 18 = .ok (.bipush (-2), 2) := by decide +kernel
theorem dX3_there_20 : decode cX3_there 20 = .ok (.ireturn, 1) := by decide +kernel
theorem dX3_there_21 : decode cX3_there 21 = .ok (.iload_n 2, 1) := by decide +kernel
theorem dX3_there_22 : decode cX3_there 22 = .ok (.iconst 1, 1) := by decide +kernel
theorem dX3_there_23 : decode cX3_there 23 = .ok (.if_icmp .ne 19, 3) := by decide +kernel
theorem dX3_there_26 : decode cX3_there 26 = .ok (.aload_n 0, 1) := by decide +kernel
theorem dX3_there_27 : decode cX3_there 27 = .ok (.getfield 7, 3) := by decide +kernel
theorem dX3_there_30 : decode cX3_there 30 = .ok (.bipush 42, 2) := by decide +kernel
theorem dX3_there_32 : decode cX3_there 32 = .ok (.iload_n 1, 1) := by decide +kernel
theorem dX3_there_33 : decode cX3_there 33 = .ok (.iadd, 1) := by decide +kernel
theorem dX3_there_34 : decode cX3_there 34 = .ok (.iaload, 1) := by decide +kernel
theorem dX3_there_35 : decode cX3_there 35 = .ok (.ifCond .ne 7, 3) := by decide +kernel
theorem dX3_there_38 : decode cX3_there 38 = .ok (.iconst 1, 1) := by decide +kernel
theorem dX3_there_39 : decode cX3_there 39 = .ok (.goto 4, 3) := by decide +kernel
theorem dX3_there_42 : decode cX3_there 42 = .ok (.iconst 0, 1) := by decide +kernel
theorem dX3_there_43 : decode cX3_there 43 = .ok (.istore_n 3, 1) := by decide +kernel
theorem dX3_there_44 : decode cX3_there 44 = .ok (.aload_n 0, 1) := by decide +kernel
theorem dX3_there_45 : decode cX3_there 45 = .ok (.getfield 7, 3) := by decide +kernel
theorem dX3_there_48 : decode cX3_there 48 = .ok (.bipush 42, 2) := by decide +kernel
theorem dX3_there_50 : decode cX3_there 50 = .ok (.iload_n 1, 1) := by decide +kernel
theorem dX3_there_51 : decode cX3_there 51 = .ok (.iadd, 1) := by decide +kernel
theorem dX3_there_52 : decode cX3_there 52 = .ok (.iload_n 2, 1) := by decide +kernel
theorem dX3_there_53 : decode cX3_there 53 = .ok (.iastore, 1) := by decide +kernel
theorem dX3_there_54 : decode cX3_there 54 = .ok (.iload_n 3, 1) := by decide +kernel
theorem dX3_there_55 : decode cX3_there 55 = .ok (.ifCond .eq 10, 3) := by decide +kernel
theorem dX3_there_58 : decode cX3_there 58 = .ok (.aload_n 0, 1) := by decide +kernel
theorem dX3_there_59 : decode cX3_there 59 = .ok (.invokevirtual 53, 3) := by decide +kernel
theorem dX3_there_62 : decode cX3_there 62 = .ok (.goto 4, 3) := by decide +kernel
theorem dX3_there_65 : decode cX3_there 65 = .ok (.iconst 0, 1) := by decide +kernel
theorem dX3_there_66 : decode cX3_there 66 = .ok (.ireturn, 1) := by decide +kernel
set_option maxRecDepth 20000 in
theorem ggX3_dueOf_X3_thingAt : GoodIn wsX3_dueOf wsX3_thingAt := goodIn_r _ [5] (by decide +kernel) (by decide +kernel)
set_option maxRecDepth 20000 in
theorem gX3_dueOf_X3_thingAt : GoodIn wsX3_dueOf (va_wsS RX3 32 yX3_thingAt wsX3_thingAt) := goodIn_app (goodIn_of _ (by decide +kernel)) ggX3_dueOf_X3_thingAt
set_option maxRecDepth 20000 in
theorem ggX3_dueOf_X3_volumeAt : GoodIn wsX3_dueOf wsX3_volumeAt := goodIn_r _ [8] (by decide +kernel) (by decide +kernel)
set_option maxRecDepth 20000 in
theorem gX3_dueOf_X3_volumeAt : GoodIn wsX3_dueOf (va_wsS RX3 40 yX3_volumeAt wsX3_volumeAt) := goodIn_app (goodIn_of _ (by decide +kernel)) ggX3_dueOf_X3_volumeAt
theorem dX3_dueOf_0 : decode cX3_dueOf 0 = .ok (.aload_n 0, 1) := by decide +kernel
theorem dX3_dueOf_1 : decode cX3_dueOf 1 = .ok (.getfield 7, 3) := by decide +kernel
theorem dX3_dueOf_4 : decode cX3_dueOf 4 = .ok (.iconst 0, 1) := by decide +kernel
theorem dX3_dueOf_5 : decode cX3_dueOf 5 = .ok (.iaload, 1) := by decide +kernel
theorem dX3_dueOf_6 : decode cX3_dueOf 6 = .ok (.istore_n 2, 1) := by decide +kernel
theorem dX3_dueOf_7 : decode cX3_dueOf 7 = .ok (.iconst 1, 1) := by decide +kernel
theorem dX3_dueOf_8 : decode cX3_dueOf 8 = .ok (.istore_n 3, 1) := by decide +kernel
theorem dX3_dueOf_9 : decode cX3_dueOf 9 = .ok (.iload_n 3, 1) := by decide +kernel
theorem dX3_dueOf_10 : decode cX3_dueOf 10 = .ok (.ifCond .eq 110, 3) := by decide +kernel
theorem dX3_dueOf_13 : decode cX3_dueOf 13 = .ok (.iinc 2 1, 3) := by decide +kernel
theorem dX3_dueOf_16 : decode cX3_dueOf 16 = .ok (.iconst 0, 1) := by decide +kernel
theorem dX3_dueOf_17 : decode cX3_dueOf 17 = .ok (.istore_n 3, 1) := by decide +kernel
theorem dX3_dueOf_18 : decode cX3_dueOf 18 = .ok (.iconst 0, 1) := by decide +kernel
theorem dX3_dueOf_19 : decode cX3_dueOf 19 = .ok (.istore 4, 2) := by decide +kernel
theorem dX3_dueOf_21 : decode cX3_dueOf 21 = .ok (.iload 4, 2) := by decide +kernel
theorem dX3_dueOf_23 : decode cX3_dueOf 23 = .ok (.iconst 5, 1) := by decide +kernel
theorem dX3_dueOf_24 : decode cX3_dueOf 24 = .ok (.if_icmp .ge 93, 3) := by decide +kernel
theorem dX3_dueOf_27 : decode cX3_dueOf 27 = .ok (.aload_n 0, 1) := by decide +kernel
theorem dX3_dueOf_28 : decode cX3_dueOf 28 = .ok (.getfield 7, 3) := by decide +kernel
theorem dX3_dueOf_31 : decode cX3_dueOf 31 = .ok (.bipush 17, 2) := by decide +kernel
theorem dX3_dueOf_33 : decode cX3_dueOf 33 = .ok (.iload_n 1, 1) := by decide +kernel
theorem dX3_dueOf_34 : decode cX3_dueOf 34 = .ok (.iadd, 1) := by decide +kernel
theorem dX3_dueOf_35 : decode cX3_dueOf 35 = .ok (.iaload, 1) := by decide +kernel
theorem dX3_dueOf_36 : decode cX3_dueOf 36 = .ok (.iconst 1, 1) := by decide +kernel
theorem dX3_dueOf_37 : decode cX3_dueOf 37 = .ok (.if_icmp .ne 21, 3) := by decide +kernel
theorem dX3_dueOf_40 : decode cX3_dueOf 40 = .ok (.aload_n 0, 1) := by decide +kernel
theorem dX3_dueOf_41 : decode cX3_dueOf 41 = .ok (.getfield 7, 3) := by decide +kernel
theorem dX3_dueOf_44 : decode cX3_dueOf 44 = .ok (.bipush 42, 2) := by decide +kernel
theorem dX3_dueOf_46 : decode cX3_dueOf 46 = .ok (.iload 4, 2) := by decide +kernel
theorem dX3_dueOf_48 : decode cX3_dueOf 48 = .ok (.iadd, 1) := by decide +kernel
theorem dX3_dueOf_49 : decode cX3_dueOf 49 = .ok (.iaload, 1) := by decide +kernel
theorem dX3_dueOf_50 : decode cX3_dueOf 50 = .ok (.iconst 1, 1) := by decide +kernel
theorem dX3_dueOf_51 : decode cX3_dueOf 51 = .ok (.if_icmp .ne 7, 3) := by decide +kernel
theorem dX3_dueOf_54 : decode cX3_dueOf 54 = .ok (.iconst 1, 1) := by decide +kernel
theorem dX3_dueOf_55 : decode cX3_dueOf 55 = .ok (.goto 4, 3) := by decide +kernel
theorem dX3_dueOf_58 : decode cX3_dueOf 58 = .ok (.iconst 0, 1) := by decide +kernel
theorem dX3_dueOf_59 : decode cX3_dueOf 59 = .ok (.istore 5, 2) := by decide +kernel
theorem dX3_dueOf_61 : decode cX3_dueOf 61 = .ok (.iload_n 3, 1) := by decide +kernel
theorem dX3_dueOf_62 : decode cX3_dueOf 62 = .ok (.ifCond .ne 43, 3) := by decide +kernel
theorem dX3_dueOf_65 : decode cX3_dueOf 65 = .ok (.aload_n 0, 1) := by decide +kernel
theorem dX3_dueOf_66 : decode cX3_dueOf 66 = .ok (.getfield 7, 3) := by decide +kernel
theorem dX3_dueOf_69 : decode cX3_dueOf 69 = .ok (.sipush 202, 3) := by decide +kernel
theorem dX3_dueOf_72 : decode cX3_dueOf 72 = .ok (.iload 4, 2) := by decide +kernel
theorem dX3_dueOf_74 : decode cX3_dueOf 74 = .ok (.iload_n 1, 1) := by decide +kernel
theorem dX3_dueOf_75 : decode cX3_dueOf 75 = .ok (.invokestatic 32, 3) := by decide +kernel
theorem dX3_dueOf_78 : decode cX3_dueOf 78 = .ok (.iaload, 1) := by decide +kernel
theorem dX3_dueOf_79 : decode cX3_dueOf 79 = .ok (.iload_n 2, 1) := by decide +kernel
theorem dX3_dueOf_80 : decode cX3_dueOf 80 = .ok (.if_icmp .le 29, 3) := by decide +kernel
theorem dX3_dueOf_83 : decode cX3_dueOf 83 = .ok (.aload_n 0, 1) := by decide +kernel
theorem dX3_dueOf_84 : decode cX3_dueOf 84 = .ok (.getfield 7, 3) := by decide +kernel
theorem dX3_dueOf_87 : decode cX3_dueOf 87 = .ok (.bipush 52, 2) := by decide +kernel
theorem dX3_dueOf_89 : decode cX3_dueOf 89 = .ok (.iload 4, 2) := by decide +kernel
theorem dX3_dueOf_91 : decode cX3_dueOf 91 = .ok (.iload_n 1, 1) := by decide +kernel
theorem dX3_dueOf_92 : decode cX3_dueOf 92 = .ok (.invokestatic 40, 3) := by decide +kernel
theorem dX3_dueOf_95 : decode cX3_dueOf 95 = .ok (.iaload, 1) := by decide +kernel
theorem dX3_dueOf_96 : decode cX3_dueOf 96 = .ok (.iload_n 2, 1) := by decide +kernel
theorem dX3_dueOf_97 : decode cX3_dueOf 97 = .ok (.if_icmp .le 12, 3) := by decide +kernel
theorem dX3_dueOf_100 : decode cX3_dueOf 100 = .ok (.iload 5, 2) := by decide +kernel
theorem dX3_dueOf_102 : decode cX3_dueOf 102 = .ok (.ifCond .ne 7, 3) := by decide +kernel
theorem dX3_dueOf_105 : decode cX3_dueOf 105 = .ok (.iconst 1, 1) := by decide +kernel
theorem dX3_dueOf_106 : decode cX3_dueOf 106 = .ok (.goto 4, 3) := by decide +kernel
theorem dX3_dueOf_109 : decode cX3_dueOf 109 = .ok (.iconst 0, 1) := by decide +kernel
theorem dX3_dueOf_110 : decode cX3_dueOf 110 = .ok (.istore_n 3, 1) := by decide +kernel
theorem dX3_dueOf_111 : decode cX3_dueOf 111 = .ok (.iinc 4 1, 3) := by decide +kernel
theorem dX3_dueOf_114 : decode cX3_dueOf 114 = .ok (.goto (-93), 3) := by decide +kernel
theorem dX3_dueOf_117 : decode cX3_dueOf 117 = .ok (.goto (-108), 3) := by decide +kernel
theorem dX3_dueOf_120 : decode cX3_dueOf 120 = .ok (.iload_n 2, 1) := by decide +kernel
theorem dX3_dueOf_121 : decode cX3_dueOf 121 = .ok (.ireturn, 1) := by decide +kernel
set_option maxRecDepth 20000 in
theorem ggX3_lesser_X3_thingAt : GoodIn wsX3_lesser wsX3_thingAt := goodIn_r _ [5] (by decide +kernel) (by decide +kernel)
set_option maxRecDepth 20000 in
theorem gX3_lesser_X3_thingAt : GoodIn wsX3_lesser (va_wsS RX3 32 yX3_thingAt wsX3_thingAt) := goodIn_app (goodIn_of _ (by decide +kernel)) ggX3_lesser_X3_thingAt
set_option maxRecDepth 20000 in
theorem ggX3_lesser_X3_volumeAt : GoodIn wsX3_lesser wsX3_volumeAt := goodIn_r _ [8] (by decide +kernel) (by decide +kernel)
set_option maxRecDepth 20000 in
theorem gX3_lesser_X3_volumeAt : GoodIn wsX3_lesser (va_wsS RX3 40 yX3_volumeAt wsX3_volumeAt) := goodIn_app (goodIn_of _ (by decide +kernel)) ggX3_lesser_X3_volumeAt
theorem dX3_lesser_0 : decode cX3_lesser 0 = .ok (.aload_n 0, 1) := by decide +kernel
theorem dX3_lesser_1 : decode cX3_lesser 1 = .ok (.getfield 7, 3) := by decide +kernel
theorem dX3_lesser_4 : decode cX3_lesser 4 = .ok (.sipush 202, 3) := by decide +kernel
theorem dX3_lesser_7 : decode cX3_lesser 7 = .ok (.iload_n 1, 1) := by decide +kernel
theorem dX3_lesser_8 : decode cX3_lesser 8 = .ok (.iload_n 2, 1) := by decide +kernel
theorem dX3_lesser_9 : decode cX3_lesser 9 = .ok (.invokestatic 32, 3) := by decide +kernel
theorem dX3_lesser_12 : decode cX3_lesser 12 = .ok (.iaload, 1) := by decide +kernel
theorem dX3_lesser_13 : decode cX3_lesser 13 = .ok (.istore_n 3, 1) := by decide +kernel
theorem dX3_lesser_14 : decode cX3_lesser 14 = .ok (.aload_n 0, 1) := by decide +kernel
theorem dX3_lesser_15 : decode cX3_lesser 15 = .ok (.getfield 7, 3) := by decide +kernel
theorem dX3_lesser_18 : decode cX3_lesser 18 = .ok (.bipush 52, 2) := by decide +kernel
theorem dX3_lesser_20 : decode cX3_lesser 20 = .ok (.iload_n 1, 1) := by decide +kernel
theorem dX3_lesser_21 : decode cX3_lesser 21 = .ok (.iload_n 2, 1) := by decide +kernel
theorem dX3_lesser_22 : decode cX3_lesser 22 = .ok (.invokestatic 40, 3) := by decide +kernel
theorem dX3_lesser_25 : decode cX3_lesser 25 = .ok (.iaload, 1) := by decide +kernel
theorem dX3_lesser_26 : decode cX3_lesser 26 = .ok (.istore 4, 2) := by decide +kernel
theorem dX3_lesser_28 : decode cX3_lesser 28 = .ok (.iload_n 3, 1) := by decide +kernel
theorem dX3_lesser_29 : decode cX3_lesser 29 = .ok (.iload 4, 2) := by decide +kernel
theorem dX3_lesser_31 : decode cX3_lesser 31 = .ok (.if_icmp .ge 7, 3) := by decide +kernel
theorem dX3_lesser_34 : decode cX3_lesser 34 = .ok (.iload_n 3, 1) := by decide +kernel
theorem dX3_lesser_35 : decode cX3_lesser 35 = .ok (.goto 5, 3) := by decide +kernel
theorem dX3_lesser_38 : decode cX3_lesser 38 = .ok (.iload 4, 2) := by decide +kernel
theorem dX3_lesser_40 : decode cX3_lesser 40 = .ok (.ireturn, 1) := by decide +kernel
set_option maxRecDepth 20000 in
theorem ggX3_layWaited_X3_isHolder : GoodIn wsX3_layWaited wsX3_isHolder := goodIn_r _ [6, 1, 7, 8, 5, 9, 17, 18, 19] (by decide +kernel) (by decide +kernel)
set_option maxRecDepth 20000 in
theorem gX3_layWaited_X3_isHolder : GoodIn wsX3_layWaited (wsV RX3 43 RX3 yX3_isHolder wsX3_isHolder) := goodIn_app (goodIn_of _ (by decide +kernel)) ggX3_layWaited_X3_isHolder
set_option maxRecDepth 20000 in
theorem ggX3_layWaited_X3_lesser : GoodIn wsX3_layWaited wsX3_lesser := goodIn_r _ [13, 1, 7, 8, 5, 9, 14, 15, 16, 17, 18, 19] (by decide +kernel) (by decide +kernel)
set_option maxRecDepth 20000 in
theorem gX3_layWaited_X3_lesser : GoodIn wsX3_layWaited (wsV RX3 57 RX3 yX3_lesser wsX3_lesser) := goodIn_app (goodIn_of _ (by decide +kernel)) ggX3_layWaited_X3_lesser
theorem dX3_layWaited_0 : decode cX3_layWaited 0 = .ok (.aload_n 0, 1) := by decide +kernel
theorem dX3_layWaited_1 : decode cX3_layWaited 1 = .ok (.getfield 7, 3) := by decide +kernel
theorem dX3_layWaited_4 : decode cX3_layWaited 4 = .ok (.sipush 302, 3) := by decide +kernel
theorem dX3_layWaited_7 : decode cX3_layWaited 7 = .ok (.iconst 0, 1) := by decide +kernel
theorem dX3_layWaited_8 : decode cX3_layWaited 8 = .ok (.iastore, 1) := by decide +kernel
theorem dX3_layWaited_9 : decode cX3_layWaited 9 = .ok (.iconst 0, 1) := by decide +kernel
theorem dX3_layWaited_10 : decode cX3_layWaited 10 = .ok (.istore_n 2, 1) := by decide +kernel
theorem dX3_layWaited_11 : decode cX3_layWaited 11 = .ok (.iload_n 2, 1) := by decide +kernel
theorem dX3_layWaited_12 : decode cX3_layWaited 12 = .ok (.iconst 5, 1) := by decide +kernel
theorem dX3_layWaited_13 : decode cX3_layWaited 13 = .ok (.if_icmp .ge 99, 3) := by decide +kernel
theorem dX3_layWaited_16 : decode cX3_layWaited 16 = .ok (.aload_n 0, 1) := by decide +kernel
theorem dX3_layWaited_17 : decode cX3_layWaited 17 = .ok (.iload_n 2, 1) := by decide +kernel
theorem dX3_layWaited_18 : decode cX3_layWaited 18 = .ok (.iload_n 1, 1) := by decide +kernel
theorem dX3_layWaited_19 : decode cX3_layWaited 19 = .ok (.invokevirtual 43, 3) := by decide +kernel
theorem dX3_layWaited_22 : decode cX3_layWaited 22 = .ok (.ifCond .eq 84, 3) := by decide +kernel
theorem dX3_layWaited_25 : decode cX3_layWaited 25 = .ok (.sipush 297, 3) := by decide +kernel
theorem dX3_layWaited_28 : decode cX3_layWaited 28 = .ok (.aload_n 0, 1) := by decide +kernel
theorem dX3_layWaited_29 : decode cX3_layWaited 29 = .ok (.getfield 7, 3) := by decide +kernel
theorem dX3_layWaited_32 : decode cX3_layWaited 32 = .ok (.sipush 302, 3) := by decide +kernel
theorem dX3_layWaited_35 : decode cX3_layWaited 35 = .ok (.iaload, 1) := by decide +kernel
theorem dX3_layWaited_36 : decode cX3_layWaited 36 = .ok (.iadd, 1) := by decide +kernel
theorem dX3_layWaited_37 : decode cX3_layWaited 37 = .ok (.istore_n 3, 1) := by decide +kernel
theorem dX3_layWaited_38 : decode cX3_layWaited 38 = .ok (.iload_n 3, 1) := by decide +kernel
theorem dX3_layWaited_39 : decode cX3_layWaited 39 = .ok (.sipush 297, 3) := by decide +kernel
theorem dX3_layWaited_42 : decode cX3_layWaited 42 = .ok (.if_icmp .le 45, 3) := by decide +kernel
theorem dX3_layWaited_45 : decode cX3_layWaited 45 = .ok (.aload_n 0, 1) := by decide +kernel
theorem dX3_layWaited_46 : decode cX3_layWaited 46 = .ok (.aload_n 0, 1) := by decide +kernel
theorem dX3_layWaited_47 : decode cX3_layWaited 47 = .ok (.getfield 7, 3) := by decide +kernel
theorem dX3_layWaited_50 : decode cX3_layWaited 50 = .ok (.iload_n 3, 1) := by decide +kernel
theorem dX3_layWaited_51 : decode cX3_layWaited 51 = .ok (.iconst 1, 1) := by decide +kernel
theorem dX3_layWaited_52 : decode cX3_layWaited 52 = .ok (.isub, 1) := by decide +kernel
theorem dX3_layWaited_53 : decode cX3_layWaited 53 = .ok (.iaload, 1) := by decide +kernel
theorem dX3_layWaited_54 : decode cX3_layWaited 54 = .ok (.iload_n 1, 1) := by decide +kernel
theorem dX3_layWaited_55 : decode cX3_layWaited 55 = .ok (.invokevirtual 57, 3) := by decide +kernel
theorem dX3_layWaited_58 : decode cX3_layWaited 58 = .ok (.aload_n 0, 1) := by decide +kernel
theorem dX3_layWaited_59 : decode cX3_layWaited 59 = .ok (.iload_n 2, 1) := by decide +kernel
theorem dX3_layWaited_60 : decode cX3_layWaited 60 = .ok (.iload_n 1, 1) := by decide +kernel
theorem dX3_layWaited_61 : decode cX3_layWaited 61 = .ok (.invokevirtual 57, 3) := by decide +kernel
theorem dX3_layWaited_64 : decode cX3_layWaited 64 = .ok (.if_icmp .ge 23, 3) := by decide +kernel
theorem dX3_layWaited_67 : decode cX3_layWaited 67 = .ok (.aload_n 0, 1) := by decide +kernel
theorem dX3_layWaited_68 : decode cX3_layWaited 68 = .ok (.getfield 7, 3) := by decide +kernel
theorem dX3_layWaited_71 : decode cX3_layWaited 71 = .ok (.iload_n 3, 1) := by decide +kernel
theorem dX3_layWaited_72 : decode cX3_layWaited 72 = .ok (.aload_n 0, 1) := by decide +kernel
theorem dX3_layWaited_73 : decode cX3_layWaited 73 = .ok (.getfield 7, 3) := by decide +kernel
theorem dX3_layWaited_76 : decode cX3_layWaited 76 = .ok (.iload_n 3, 1) := by decide +kernel
theorem dX3_layWaited_77 : decode cX3_layWaited 77 = .ok (.iconst 1, 1) := by decide +kernel
theorem dX3_layWaited_78 : decode cX3_layWaited 78 = .ok (.isub, 1) := by decide +kernel
theorem dX3_layWaited_79 : decode cX3_layWaited 79 = .ok (.iaload, 1) := by decide +kernel
theorem dX3_layWaited_80 : decode cX3_layWaited 80 = .ok (.iastore, 1) := by decide +kernel
theorem dX3_layWaited_81 : decode cX3_layWaited 81 = .ok (.iinc 3 (-1), 3) := by decide +kernel
theorem dX3_layWaited_84 : decode cX3_layWaited 84 = .ok (.goto (-46), 3) := by decide +kernel
theorem dX3_layWaited_87 : decode cX3_layWaited 87 = .ok (.aload_n 0, 1) := by decide +kernel
theorem dX3_layWaited_88 : decode cX3_layWaited 88 = .ok (.getfield 7, 3) := by decide +kernel
theorem dX3_layWaited_91 : decode cX3_layWaited 91 = .ok (.iload_n 3, 1) := by decide +kernel
theorem dX3_layWaited_92 : decode cX3_layWaited 92 = .ok (.iload_n 2, 1) := by decide +kernel
theorem dX3_layWaited_93 : decode cX3_layWaited 93 = .ok (.iastore, 1) := by decide +kernel
theorem dX3_layWaited_94 : decode cX3_layWaited 94 = .ok (.aload_n 0, 1) := by decide +kernel
theorem dX3_layWaited_95 : decode cX3_layWaited 95 = .ok (.getfield 7, 3) := by decide +kernel
theorem dX3_layWaited_98 : decode cX3_layWaited 98 = .ok (.sipush 302, 3) := by decide +kernel
theorem dX3_layWaited_101 : decode cX3_layWaited 101 = .ok (.dup2, 1) := by decide +kernel
theorem dX3_layWaited_102 : decode cX3_layWaited 102 = .ok (.iaload, 1) := by decide +kernel
theorem dX3_layWaited_103 : decode cX3_layWaited 103 = .ok (.iconst 1, 1) := by decide +kernel
theorem dX3_layWaited_104 : decode cX3_layWaited 104 = .ok (.iadd, 1) := by decide +kernel
theorem dX3_layWaited_105 : decode cX3_layWaited 105 = .ok (.iastore, 1) := by decide +kernel
theorem dX3_layWaited_106 : decode cX3_layWaited 106 = .ok (.iinc 2 1, 3) := by decide +kernel
theorem dX3_layWaited_109 : decode cX3_layWaited 109 = .ok (.goto (-98), 3) := by decide +kernel
theorem dX3_layWaited_112 : decode cX3_layWaited 112 = .ok (.return_, 1) := by decide +kernel
set_option maxRecDepth 20000 in
theorem ggX3_write_X3_isThing : GoodIn wsX3_write wsX3_isThing := goodIn_r _ [5, 6, 7, 4, 8] (by decide +kernel) (by decide +kernel)
set_option maxRecDepth 20000 in
theorem gX3_write_X3_isThing : GoodIn wsX3_write (va_wsS RX3 60 yX3_isThing wsX3_isThing) := goodIn_app (goodIn_of _ (by decide +kernel)) ggX3_write_X3_isThing
set_option maxRecDepth 20000 in
theorem ggX3_write_X3_in : GoodIn wsX3_write wsX3_in := goodIn_r _ [8] (by decide +kernel) (by decide +kernel)
set_option maxRecDepth 20000 in
theorem gX3_write_X3_in : GoodIn wsX3_write (va_wsS RX3 24 yX3_in wsX3_in) := goodIn_app (goodIn_of _ (by decide +kernel)) ggX3_write_X3_in
set_option maxRecDepth 20000 in
theorem ggX3_write_X3_isSettled : GoodIn wsX3_write wsX3_isSettled := goodIn_r _ [12, 1, 13, 14, 15, 4, 16, 17, 18, 19, 20, 21, 22, 23, 24, 25, 26, 27, 28, 29, 42, 43, 44] (by decide +kernel) (by decide +kernel)
set_option maxRecDepth 20000 in
theorem gX3_write_X3_isSettled : GoodIn wsX3_write (wsV RX3 50 RX3 yX3_isSettled wsX3_isSettled) := goodIn_app (goodIn_of _ (by decide +kernel)) ggX3_write_X3_isSettled
set_option maxRecDepth 20000 in
theorem ggX3_write_X3_layWaited : GoodIn wsX3_write wsX3_layWaited := goodIn_r _ [33, 1, 13, 14, 15, 4, 16, 17, 18, 19, 34, 35, 36, 37, 20, 21, 22, 42, 43, 44] (by decide +kernel) (by decide +kernel)
set_option maxRecDepth 20000 in
theorem gX3_write_X3_layWaited : GoodIn wsX3_write (wsV RX3 63 RX3 yX3_layWaited wsX3_layWaited) := goodIn_app (goodIn_of _ (by decide +kernel)) ggX3_write_X3_layWaited
set_option maxRecDepth 20000 in
theorem ggX3_write_X3_dueOf : GoodIn wsX3_write wsX3_dueOf := goodIn_r _ [41, 1, 17, 18, 4, 19, 20, 21, 22, 42, 43, 44] (by decide +kernel) (by decide +kernel)
set_option maxRecDepth 20000 in
theorem gX3_write_X3_dueOf : GoodIn wsX3_write (wsV RX3 67 RX3 yX3_dueOf wsX3_dueOf) := goodIn_app (goodIn_of _ (by decide +kernel)) ggX3_write_X3_dueOf
theorem dX3_write_0 : decode cX3_write 0 = .ok (.iload_n 1, 1) := by decide +kernel
theorem dX3_write_1 : decode cX3_write 1 = .ok (.invokestatic 60, 3) := by decide +kernel
theorem dX3_write_4 : decode cX3_write 4 = .ok (.ifCond .ne 5, 3) := by decide +kernel
theorem dX3_write_7 : decode cX3_write 7 = .ok (.iconst (-1), 1) := by decide +kernel
theorem dX3_write_8 : decode cX3_write 8 = .ok (.ireturn, 1) := by decide +kernel
theorem dX3_write_9 : decode cX3_write 9 = .ok (.iload_n 2, 1) := by decide +kernel
theorem dX3_write_10 : decode cX3_write 10 = .ok (.iconst 0, 1) := by decide +kernel
theorem dX3_write_11 : decode cX3_write 11 = .ok (.iconst 1, 1) := by decide +kernel
theorem dX3_write_12 : decode cX3_write 12 = .ok (.invokestatic 24, 3) := by decide +kernel
theorem dX3_write_15 : decode cX3_write 15 = .ok (.ifCond .ne 6, 3) := by decide +kernel
theorem dX3_write_18 : decode cX3_write 18 = .ok (.bipush (-2), 2) := by decide +kernel
theorem dX3_write_20 : decode cX3_write 20 = .ok (.ireturn, 1) := by decide +kernel
theorem dX3_write_21 : decode cX3_write 21 = .ok (.aload_n 0, 1) := by decide +kernel
theorem dX3_write_22 : decode cX3_write 22 = .ok (.getfield 7, 3) := by decide +kernel
theorem dX3_write_25 : decode cX3_write 25 = .ok (.bipush 17, 2) := by decide +kernel
theorem dX3_write_27 : decode cX3_write 27 = .ok (.iload_n 1, 1) := by decide +kernel
theorem dX3_write_28 : decode cX3_write 28 = .ok (.iadd, 1) := by decide +kernel
theorem dX3_write_29 : decode cX3_write 29 = .ok (.iaload, 1) := by decide +kernel
theorem dX3_write_30 : decode cX3_write 30 = .ok (.ifCond .lt 6, 3) := by decide +kernel
theorem dX3_write_33 : decode cX3_write 33 = .ok (.bipush (-5), 2) := by decide +kernel
theorem dX3_write_35 : decode cX3_write 35 = .ok (.ireturn, 1) := by decide +kernel
theorem dX3_write_36 : decode cX3_write 36 = .ok (.aload_n 0, 1) := by decide +kernel
theorem dX3_write_37 : decode cX3_write 37 = .ok (.getfield 7, 3) := by decide +kernel
theorem dX3_write_40 : decode cX3_write 40 = .ok (.sipush 304, 3) := by decide +kernel
theorem dX3_write_43 : decode cX3_write 43 = .ok (.dup2, 1) := by decide +kernel
theorem dX3_write_44 : decode cX3_write 44 = .ok (.iaload, 1) := by decide +kernel
theorem dX3_write_45 : decode cX3_write 45 = .ok (.iconst 1, 1) := by decide +kernel
theorem dX3_write_46 : decode cX3_write 46 = .ok (.iadd, 1) := by decide +kernel
theorem dX3_write_47 : decode cX3_write 47 = .ok (.iastore, 1) := by decide +kernel
theorem dX3_write_48 : decode cX3_write 48 = .ok (.aload_n 0, 1) := by decide +kernel
theorem dX3_write_49 : decode cX3_write 49 = .ok (.getfield 7, 3) := by decide +kernel
theorem dX3_write_52 : decode cX3_write 52 = .ok (.bipush 17, 2) := by decide +kernel
theorem dX3_write_54 : decode cX3_write 54 = .ok (.iload_n 1, 1) := by decide +kernel
theorem dX3_write_55 : decode cX3_write 55 = .ok (.iadd, 1) := by decide +kernel
theorem dX3_write_56 : decode cX3_write 56 = .ok (.iload_n 2, 1) := by decide +kernel
theorem dX3_write_57 : decode cX3_write 57 = .ok (.iastore, 1) := by decide +kernel
theorem dX3_write_58 : decode cX3_write 58 = .ok (.aload_n 0, 1) := by decide +kernel
theorem dX3_write_59 : decode cX3_write 59 = .ok (.iload_n 1, 1) := by decide +kernel
theorem dX3_write_60 : decode cX3_write 60 = .ok (.invokevirtual 50, 3) := by decide +kernel
theorem dX3_write_63 : decode cX3_write 63 = .ok (.istore_n 3, 1) := by decide +kernel
theorem dX3_write_64 : decode cX3_write 64 = .ok (.aload_n 0, 1) := by decide +kernel
theorem dX3_write_65 : decode cX3_write 65 = .ok (.iload_n 1, 1) := by decide +kernel
theorem dX3_write_66 : decode cX3_write 66 = .ok (.invokevirtual 63, 3) := by decide +kernel
theorem dX3_write_69 : decode cX3_write 69 = .ok (.iload_n 3, 1) := by decide +kernel
theorem dX3_write_70 : decode cX3_write 70 = .ok (.ifCond .eq 5, 3) := by decide +kernel
theorem dX3_write_73 : decode cX3_write 73 = .ok (.iconst 0, 1) := by decide +kernel
theorem dX3_write_74 : decode cX3_write 74 = .ok (.ireturn, 1) := by decide +kernel
theorem dX3_write_75 : decode cX3_write 75 = .ok (.aload_n 0, 1) := by decide +kernel
theorem dX3_write_76 : decode cX3_write 76 = .ok (.getfield 7, 3) := by decide +kernel
theorem dX3_write_79 : decode cX3_write 79 = .ok (.bipush 29, 2) := by decide +kernel
theorem dX3_write_81 : decode cX3_write 81 = .ok (.aload_n 0, 1) := by decide +kernel
theorem dX3_write_82 : decode cX3_write 82 = .ok (.getfield 7, 3) := by decide +kernel
theorem dX3_write_85 : decode cX3_write 85 = .ok (.bipush 41, 2) := by decide +kernel
theorem dX3_write_87 : decode cX3_write 87 = .ok (.iaload, 1) := by decide +kernel
theorem dX3_write_88 : decode cX3_write 88 = .ok (.iadd, 1) := by decide +kernel
theorem dX3_write_89 : decode cX3_write 89 = .ok (.iload_n 1, 1) := by decide +kernel
theorem dX3_write_90 : decode cX3_write 90 = .ok (.iastore, 1) := by decide +kernel
theorem dX3_write_91 : decode cX3_write 91 = .ok (.aload_n 0, 1) := by decide +kernel
theorem dX3_write_92 : decode cX3_write 92 = .ok (.getfield 7, 3) := by decide +kernel
theorem dX3_write_95 : decode cX3_write 95 = .ok (.bipush 41, 2) := by decide +kernel
theorem dX3_write_97 : decode cX3_write 97 = .ok (.dup2, 1) := by decide +kernel
theorem dX3_write_98 : decode cX3_write 98 = .ok (.iaload, 1) := by decide +kernel
theorem dX3_write_99 : decode cX3_write 99 = .ok (.iconst 1, 1) := by decide +kernel
theorem dX3_write_100 : decode cX3_write 100 = .ok (.iadd, 1) := by decide +kernel
theorem dX3_write_101 : decode cX3_write 101 = .ok (.iastore, 1) := by decide +kernel
theorem dX3_write_102 : decode cX3_write 102 = .ok (.aload_n 0, 1) := by decide +kernel
theorem dX3_write_103 : decode cX3_write 103 = .ok (.iload_n 1, 1) := by decide +kernel
theorem dX3_write_104 : decode cX3_write 104 = .ok (.invokevirtual 67, 3) := by decide +kernel
theorem dX3_write_107 : decode cX3_write 107 = .ok (.aload_n 0, 1) := by decide +kernel
theorem dX3_write_108 : decode cX3_write 108 = .ok (.getfield 7, 3) := by decide +kernel
theorem dX3_write_111 : decode cX3_write 111 = .ok (.iconst 0, 1) := by decide +kernel
theorem dX3_write_112 : decode cX3_write 112 = .ok (.iaload, 1) := by decide +kernel
theorem dX3_write_113 : decode cX3_write 113 = .ok (.isub, 1) := by decide +kernel
theorem dX3_write_114 : decode cX3_write 114 = .ok (.ireturn, 1) := by decide +kernel
set_option maxRecDepth 20000 in
theorem ggX3_pass_X3_in : GoodIn wsX3_pass wsX3_in := goodIn_r _ [5] (by decide +kernel) (by decide +kernel)
set_option maxRecDepth 20000 in
theorem gX3_pass_X3_in : GoodIn wsX3_pass (va_wsS RX3 24 yX3_in wsX3_in) := goodIn_app (goodIn_of _ (by decide +kernel)) ggX3_pass_X3_in
set_option maxRecDepth 20000 in
theorem ggX3_pass_X3_settleAll : GoodIn wsX3_pass wsX3_settleAll := goodIn_r _ [9, 1, 10, 11, 12, 4, 13, 14, 15, 16, 17, 18, 19, 20, 21, 22, 23, 24, 25, 26, 27, 28, 29, 30, 31, 32, 33] (by decide +kernel) (by decide +kernel)
set_option maxRecDepth 20000 in
theorem gX3_pass_X3_settleAll : GoodIn wsX3_pass (wsV RX3 53 RX3 yX3_settleAll wsX3_settleAll) := goodIn_app (goodIn_of _ (by decide +kernel)) ggX3_pass_X3_settleAll
theorem dX3_pass_0 : decode cX3_pass 0 = .ok (.iload_n 1, 1) := by decide +kernel
theorem dX3_pass_1 : decode cX3_pass 1 = .ok (.iconst 1, 1) := by decide +kernel
theorem dX3_pass_2 : decode cX3_pass 2 = .ok (.bipush 100, 2) := by decide +kernel
theorem dX3_pass_4 : decode cX3_pass 4 = .ok (.invokestatic 24, 3) := by decide +kernel
theorem dX3_pass_7 : decode cX3_pass 7 = .ok (.ifCond .ne 6, 3) := by decide +kernel
theorem dX3_pass_10 : decode cX3_pass 10 = .ok (.bipush (-2), 2) := by decide +kernel
theorem dX3_pass_12 : decode cX3_pass 12 = .ok (.ireturn, 1) := by decide +kernel
theorem dX3_pass_13 : decode cX3_pass 13 = .ok (.iconst 0, 1) := by decide +kernel
theorem dX3_pass_14 : decode cX3_pass 14 = .ok (.istore_n 2, 1) := by decide +kernel
theorem dX3_pass_15 : decode cX3_pass 15 = .ok (.iconst 0, 1) := by decide +kernel
theorem dX3_pass_16 : decode cX3_pass 16 = .ok (.istore_n 3, 1) := by decide +kernel
theorem dX3_pass_17 : decode cX3_pass 17 = .ok (.iload_n 3, 1) := by decide +kernel
theorem dX3_pass_18 : decode cX3_pass 18 = .ok (.iload_n 1, 1) := by decide +kernel
theorem dX3_pass_19 : decode cX3_pass 19 = .ok (.if_icmp .ge 26, 3) := by decide +kernel
theorem dX3_pass_22 : decode cX3_pass 22 = .ok (.aload_n 0, 1) := by decide +kernel
theorem dX3_pass_23 : decode cX3_pass 23 = .ok (.getfield 7, 3) := by decide +kernel
theorem dX3_pass_26 : decode cX3_pass 26 = .ok (.iconst 0, 1) := by decide +kernel
theorem dX3_pass_27 : decode cX3_pass 27 = .ok (.dup2, 1) := by decide +kernel
theorem dX3_pass_28 : decode cX3_pass 28 = .ok (.iaload, 1) := by decide +kernel
theorem dX3_pass_29 : decode cX3_pass 29 = .ok (.iconst 1, 1) := by decide +kernel
theorem dX3_pass_30 : decode cX3_pass 30 = .ok (.iadd, 1) := by decide +kernel
theorem dX3_pass_31 : decode cX3_pass 31 = .ok (.iastore, 1) := by decide +kernel
theorem dX3_pass_32 : decode cX3_pass 32 = .ok (.iload_n 2, 1) := by decide +kernel
theorem dX3_pass_33 : decode cX3_pass 33 = .ok (.aload_n 0, 1) := by decide +kernel
theorem dX3_pass_34 : decode cX3_pass 34 = .ok (.invokevirtual 53, 3) := by decide +kernel
theorem dX3_pass_37 : decode cX3_pass 37 = .ok (.iadd, 1) := by decide +kernel
theorem dX3_pass_38 : decode cX3_pass 38 = .ok (.istore_n 2, 1) := by decide +kernel
theorem dX3_pass_39 : decode cX3_pass 39 = .ok (.iinc 3 1, 3) := by decide +kernel
theorem dX3_pass_42 : decode cX3_pass 42 = .ok (.goto (-25), 3) := by decide +kernel
theorem dX3_pass_45 : decode cX3_pass 45 = .ok (.iload_n 2, 1) := by decide +kernel
