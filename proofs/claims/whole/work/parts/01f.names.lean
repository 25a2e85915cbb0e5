theorem dX10_in_0 : decode cX10_in 0 = .ok (.lload_n 0, 1) := by decide +kernel
theorem dX10_in_1 : decode cX10_in 1 = .ok (.lload_n 2, 1) := by decide +kernel
theorem dX10_in_2 : decode cX10_in 2 = .ok (.lcmp, 1) := by decide +kernel
theorem dX10_in_3 : decode cX10_in 3 = .ok (.ifCond .lt 14, 3) := by decide +kernel
theorem dX10_in_6 : decode cX10_in 6 = .ok (.lload_n 0, 1) := by decide +kernel
theorem dX10_in_7 : decode cX10_in 7 = .ok (.lload 4, 2) := by decide +kernel
theorem dX10_in_9 : decode cX10_in 9 = .ok (.lcmp, 1) := by decide +kernel
theorem dX10_in_10 : decode cX10_in 10 = .ok (.ifCond .gt 7, 3) := by decide +kernel
theorem dX10_in_13 : decode cX10_in 13 = .ok (.iconst 1, 1) := by decide +kernel
theorem dX10_in_14 : decode cX10_in 14 = .ok (.goto 4, 3) := by decide +kernel
theorem dX10_in_17 : decode cX10_in 17 = .ok (.iconst 0, 1) := by decide +kernel
theorem dX10_in_18 : decode cX10_in 18 = .ok (.ireturn, 1) := by decide +kernel
theorem dX10_init_0 : decode cX10_init 0 = .ok (.aload_n 0, 1) := by decide +kernel
theorem dX10_init_1 : decode cX10_init 1 = .ok (.invokespecial 1, 3) := by decide +kernel
theorem dX10_init_4 : decode cX10_init 4 = .ok (.aload_n 0, 1) := by decide +kernel
theorem dX10_init_5 : decode cX10_init 5 = .ok (.bipush 6, 2) := by decide +kernel
theorem dX10_init_7 : decode cX10_init 7 = .ok (.newarray .int, 2) := by decide +kernel
theorem dX10_init_9 : decode cX10_init 9 = .ok (.putfield 7, 3) := by decide +kernel
theorem dX10_init_12 : decode cX10_init 12 = .ok (.aload_n 0, 1) := by decide +kernel
theorem dX10_init_13 : decode cX10_init 13 = .ok (.bipush 6, 2) := by decide +kernel
theorem dX10_init_15 : decode cX10_init 15 = .ok (.newarray .int, 2) := by decide +kernel
theorem dX10_init_17 : decode cX10_init 17 = .ok (.putfield 13, 3) := by decide +kernel
theorem dX10_init_20 : decode cX10_init 20 = .ok (.aload_n 0, 1) := by decide +kernel
theorem dX10_init_21 : decode cX10_init 21 = .ok (.bipush 6, 2) := by decide +kernel
theorem dX10_init_23 : decode cX10_init 23 = .ok (.newarray .int, 2) := by decide +kernel
theorem dX10_init_25 : decode cX10_init 25 = .ok (.putfield 16, 3) := by decide +kernel
theorem dX10_init_28 : decode cX10_init 28 = .ok (.aload_n 0, 1) := by decide +kernel
theorem dX10_init_29 : decode cX10_init 29 = .ok (.bipush 6, 2) := by decide +kernel
theorem dX10_init_31 : decode cX10_init 31 = .ok (.newarray .int, 2) := by decide +kernel
theorem dX10_init_33 : decode cX10_init 33 = .ok (.putfield 19, 3) := by decide +kernel
theorem dX10_init_36 : decode cX10_init 36 = .ok (.aload_n 0, 1) := by decide +kernel
theorem dX10_init_37 : decode cX10_init 37 = .ok (.bipush 6, 2) := by decide +kernel
theorem dX10_init_39 : decode cX10_init 39 = .ok (.newarray .int, 2) := by decide +kernel
theorem dX10_init_41 : decode cX10_init 41 = .ok (.putfield 22, 3) := by decide +kernel
theorem dX10_init_44 : decode cX10_init 44 = .ok (.aload_n 0, 1) := by decide +kernel
theorem dX10_init_45 : decode cX10_init 45 = .ok (.bipush 36, 2) := by decide +kernel
theorem dX10_init_47 : decode cX10_init 47 = .ok (.newarray .int, 2) := by decide +kernel
theorem dX10_init_49 : decode cX10_init 49 = .ok (.putfield 25, 3) := by decide +kernel
theorem dX10_init_52 : decode cX10_init 52 = .ok (.aload_n 0, 1) := by decide +kernel
theorem dX10_init_53 : decode cX10_init 53 = .ok (.bipush 60, 2) := by decide +kernel
theorem dX10_init_55 : decode cX10_init 55 = .ok (.newarray .int, 2) := by decide +kernel
theorem dX10_init_57 : decode cX10_init 57 = .ok (.putfield 28, 3) := by decide +kernel
theorem dX10_init_60 : decode cX10_init 60 = .ok (.aload_n 0, 1) := by decide +kernel
theorem dX10_init_61 : decode cX10_init 61 = .ok (.bipush 6, 2) := by decide +kernel
theorem dX10_init_63 : decode cX10_init 63 = .ok (.newarray .int, 2) := by decide +kernel
theorem dX10_init_65 : decode cX10_init 65 = .ok (.putfield 31, 3) := by decide +kernel
theorem dX10_init_68 : decode cX10_init 68 = .ok (.aload_n 0, 1) := by decide +kernel
theorem dX10_init_69 : decode cX10_init 69 = .ok (.bipush 6, 2) := by decide +kernel
theorem dX10_init_71 : decode cX10_init 71 = .ok (.newarray .int, 2) := by decide +kernel
theorem dX10_init_73 : decode cX10_init 73 = .ok (.putfield 34, 3) := by decide +kernel
theorem dX10_init_76 : decode cX10_init 76 = .ok (.aload_n 0, 1) := by decide +kernel
theorem dX10_init_77 : decode cX10_init 77 = .ok (.bipush 36, 2) := by decide +kernel
theorem dX10_init_79 : decode cX10_init 79 = .ok (.newarray .int, 2) := by decide +kernel
theorem dX10_init_81 : decode cX10_init 81 = .ok (.putfield 37, 3) := by decide +kernel
theorem dX10_init_84 : decode cX10_init 84 = .ok (.aload_n 0, 1) := by decide +kernel
theorem dX10_init_85 : decode cX10_init 85 = .ok (.sipush 1296, 3) := by decide +kernel
theorem dX10_init_88 : decode cX10_init 88 = .ok (.newarray .int, 2) := by decide +kernel
theorem dX10_init_90 : decode cX10_init 90 = .ok (.putfield 40, 3) := by decide +kernel
theorem dX10_init_93 : decode cX10_init 93 = .ok (.aload_n 0, 1) := by decide +kernel
theorem dX10_init_94 : decode cX10_init 94 = .ok (.bipush 34, 2) := by decide +kernel
theorem dX10_init_96 : decode cX10_init 96 = .ok (.newarray .int, 2) := by decide +kernel
theorem dX10_init_98 : decode cX10_init 98 = .ok (.putfield 43, 3) := by decide +kernel
theorem dX10_init_101 : decode cX10_init 101 = .ok (.aload_n 0, 1) := by decide +kernel
theorem dX10_init_102 : decode cX10_init 102 = .ok (.iconst 4, 1) := by decide +kernel
theorem dX10_init_103 : decode cX10_init 103 = .ok (.newarray .int, 2) := by decide +kernel
theorem dX10_init_105 : decode cX10_init 105 = .ok (.putfield 46, 3) := by decide +kernel
theorem dX10_init_108 : decode cX10_init 108 = .ok (.aload_n 0, 1) := by decide +kernel
theorem dX10_init_109 : decode cX10_init 109 = .ok (.iconst 4, 1) := by decide +kernel
theorem dX10_init_110 : decode cX10_init 110 = .ok (.newarray .int, 2) := by decide +kernel
theorem dX10_init_112 : decode cX10_init 112 = .ok (.putfield 49, 3) := by decide +kernel
theorem dX10_init_115 : decode cX10_init 115 = .ok (.aload_n 0, 1) := by decide +kernel
theorem dX10_init_116 : decode cX10_init 116 = .ok (.bipush 64, 2) := by decide +kernel
theorem dX10_init_118 : decode cX10_init 118 = .ok (.newarray .long, 2) := by decide +kernel
theorem dX10_init_120 : decode cX10_init 120 = .ok (.putfield 52, 3) := by decide +kernel
theorem dX10_init_123 : decode cX10_init 123 = .ok (.aload_n 0, 1) := by decide +kernel
theorem dX10_init_124 : decode cX10_init 124 = .ok (.bipush 16, 2) := by decide +kernel
theorem dX10_init_126 : decode cX10_init 126 = .ok (.newarray .long, 2) := by decide +kernel
theorem dX10_init_128 : decode cX10_init 128 = .ok (.putfield 56, 3) := by decide +kernel
theorem dX10_init_131 : decode cX10_init 131 = .ok (.iconst 0, 1) := by decide +kernel
theorem dX10_init_132 : decode cX10_init 132 = .ok (.istore_n 1, 1) := by decide +kernel
theorem dX10_init_133 : decode cX10_init 133 = .ok (.iload_n 1, 1) := by decide +kernel
theorem dX10_init_134 : decode cX10_init 134 = .ok (.iconst 4, 1) := by decide +kernel
theorem dX10_init_135 : decode cX10_init 135 = .ok (.if_icmp .ge 16, 3) := by decide +kernel
theorem dX10_init_138 : decode cX10_init 138 = .ok (.aload_n 0, 1) := by decide +kernel
theorem dX10_init_139 : decode cX10_init 139 = .ok (.getfield 46, 3) := by decide +kernel
theorem dX10_init_142 : decode cX10_init 142 = .ok (.iload_n 1, 1) := by decide +kernel
theorem dX10_init_143 : decode cX10_init 143 = .ok (.iconst (-1), 1) := by decide +kernel
theorem dX10_init_144 : decode cX10_init 144 = .ok (.iastore, 1) := by decide +kernel
theorem dX10_init_145 : decode cX10_init 145 = .ok (.iinc 1 1, 3) := by decide +kernel
theorem dX10_init_148 : decode cX10_init 148 = .ok (.goto (-15), 3) := by decide +kernel
theorem dX10_init_151 : decode cX10_init 151 = .ok (.return_, 1) := by decide +kernel
set_option maxRecDepth 20000 in
theorem ggX10_isCell_X10_in : GoodIn wsX10_isCell wsX10_in := goodIn_r _ [5] (by decide +kernel) (by decide +kernel)
set_option maxRecDepth 20000 in
theorem gX10_isCell_X10_in : GoodIn wsX10_isCell (va_wsS RX10 61 yX10_in wsX10_in) := goodIn_app (goodIn_of _ (by decide +kernel)) ggX10_isCell_X10_in
theorem dX10_isCell_0 : decode cX10_isCell 0 = .ok (.lload_n 0, 1) := by decide +kernel
theorem dX10_isCell_1 : decode cX10_isCell 1 = .ok (.lconst 0, 1) := by decide +kernel
theorem dX10_isCell_2 : decode cX10_isCell 2 = .ok (.ldc2_w 59, 3) := by decide +kernel
theorem dX10_isCell_5 : decode cX10_isCell 5 = .ok (.invokestatic 61, 3) := by decide +kernel
theorem dX10_isCell_8 : decode cX10_isCell 8 = .ok (.ireturn, 1) := by decide +kernel
set_option maxRecDepth 20000 in
theorem ggX10_isTuft_X10_in : GoodIn wsX10_isTuft wsX10_in := goodIn_r _ [5] (by decide +kernel) (by decide +kernel)
set_option maxRecDepth 20000 in
theorem gX10_isTuft_X10_in : GoodIn wsX10_isTuft (va_wsS RX10 61 yX10_in wsX10_in) := goodIn_app (goodIn_of _ (by decide +kernel)) ggX10_isTuft_X10_in
theorem dX10_isTuft_0 : decode cX10_isTuft 0 = .ok (.iload_n 1, 1) := by decide +kernel
theorem dX10_isTuft_1 : decode cX10_isTuft 1 = .ok (.i2l, 1) := by decide +kernel
theorem dX10_isTuft_2 : decode cX10_isTuft 2 = .ok (.lconst 0, 1) := by decide +kernel
theorem dX10_isTuft_3 : decode cX10_isTuft 3 = .ok (.aload_n 0, 1) := by decide +kernel
theorem dX10_isTuft_4 : decode cX10_isTuft 4 = .ok (.getfield 65, 3) := by decide +kernel
theorem dX10_isTuft_7 : decode cX10_isTuft 7 = .ok (.iconst 1, 1) := by decide +kernel
theorem dX10_isTuft_8 : decode cX10_isTuft 8 = .ok (.isub, 1) := by decide +kernel
theorem dX10_isTuft_9 : decode cX10_isTuft 9 = .ok (.i2l, 1) := by decide +kernel
theorem dX10_isTuft_10 : decode cX10_isTuft 10 = .ok (.invokestatic 61, 3) := by decide +kernel
theorem dX10_isTuft_13 : decode cX10_isTuft 13 = .ok (.ireturn, 1) := by decide +kernel
set_option maxRecDepth 20000 in
theorem ggX10_isOne_X10_in : GoodIn wsX10_isOne wsX10_in := goodIn_r _ [5] (by decide +kernel) (by decide +kernel)
set_option maxRecDepth 20000 in
theorem gX10_isOne_X10_in : GoodIn wsX10_isOne (va_wsS RX10 61 yX10_in wsX10_in) := goodIn_app (goodIn_of _ (by decide +kernel)) ggX10_isOne_X10_in
theorem dX10_isOne_0 : decode cX10_isOne 0 = .ok (.iload_n 1, 1) := by decide +kernel
theorem dX10_isOne_1 : decode cX10_isOne 1 = .ok (.i2l, 1) := by decide +kernel
theorem dX10_isOne_2 : decode cX10_isOne 2 = .ok (.lconst 0, 1) := by decide +kernel
theorem dX10_isOne_3 : decode cX10_isOne 3 = .ok (.aload_n 0, 1) := by decide +kernel
theorem dX10_isOne_4 : decode cX10_isOne 4 = .ok (.getfield 69, 3) := by decide +kernel
theorem dX10_isOne_7 : decode cX10_isOne 7 = .ok (.iconst 1, 1) := by decide +kernel
theorem dX10_isOne_8 : decode cX10_isOne 8 = .ok (.isub, 1) := by decide +kernel
theorem dX10_isOne_9 : decode cX10_isOne 9 = .ok (.i2l, 1) := by decide +kernel
theorem dX10_isOne_10 : decode cX10_isOne 10 = .ok (.invokestatic 61, 3) := by decide +kernel
theorem dX10_isOne_13 : decode cX10_isOne 13 = .ok (.ireturn, 1) := by decide +kernel
theorem dX10_has_0 : decode cX10_has 0 = .ok (.lload_n 0, 1) := by decide +kernel
theorem dX10_has_1 : decode cX10_has 1 = .ok (.iload_n 2, 1) := by decide +kernel
theorem dX10_has_2 : decode cX10_has 2 = .ok (.lshr, 1) := by decide +kernel
theorem dX10_has_3 : decode cX10_has 3 = .ok (.lconst 1, 1) := by decide +kernel
theorem dX10_has_4 : decode cX10_has 4 = .ok (.land, 1) := by decide +kernel
theorem dX10_has_5 : decode cX10_has 5 = .ok (.lconst 1, 1) := by decide +kernel
theorem dX10_has_6 : decode cX10_has 6 = .ok (.lcmp, 1) := by decide +kernel
theorem dX10_has_7 : decode cX10_has 7 = .ok (.ifCond .ne 7, 3) := by decide +kernel
theorem dX10_has_10 : decode cX10_has 10 = .ok (.iconst 1, 1) := by decide +kernel
theorem dX10_has_11 : decode cX10_has 11 = .ok (.goto 4, 3) := by decide +kernel
theorem dX10_has_14 : decode cX10_has 14 = .ok (.iconst 0, 1) := by decide +kernel
theorem dX10_has_15 : decode cX10_has 15 = .ok (.ireturn, 1) := by decide +kernel
set_option maxRecDepth 20000 in
theorem ggX10_drain_X10_isCell : GoodIn wsX10_drain wsX10_isCell := goodIn_r _ [6, 7, 8, 9, 5, 10] (by decide +kernel) (by decide +kernel)
set_option maxRecDepth 20000 in
theorem gX10_drain_X10_isCell : GoodIn wsX10_drain (va_wsS RX10 72 yX10_isCell wsX10_isCell) := goodIn_app (goodIn_of _ (by decide +kernel)) ggX10_drain_X10_isCell
set_option maxRecDepth 20000 in
theorem ggX10_drain_X10_has : GoodIn wsX10_drain wsX10_has := goodIn_r _ [13] (by decide +kernel) (by decide +kernel)
set_option maxRecDepth 20000 in
theorem gX10_drain_X10_has : GoodIn wsX10_drain (va_wsS RX10 80 yX10_has wsX10_has) := goodIn_app (goodIn_of _ (by decide +kernel)) ggX10_drain_X10_has
theorem dX10_drain_0 : decode cX10_drain 0 = .ok (.iload_n 1, 1) := by decide +kernel
theorem dX10_drain_1 : decode cX10_drain 1 = .ok (.i2l, 1) := by decide +kernel
theorem dX10_drain_2 : decode cX10_drain 2 = .ok (.invokestatic 72, 3) := by decide +kernel
theorem dX10_drain_5 : decode cX10_drain 5 = .ok (.ifCond .ne 5, 3) := by decide +kernel
theorem dX10_drain_8 : decode cX10_drain 8 = .ok (.iconst (-1), 1) := by decide +kernel
theorem dX10_drain_9 : decode cX10_drain 9 = .ok (.ireturn, 1) := by decide +kernel
theorem dX10_drain_10 : decode cX10_drain 10 = .ok (.aload_n 0, 1) := by decide +kernel
theorem dX10_drain_11 : decode cX10_drain 11 = .ok (.getfield 76, 3) := by decide +kernel
theorem dX10_drain_14 : decode cX10_drain 14 = .ok (.iload_n 1, 1) := by decide +kernel
theorem dX10_drain_15 : decode cX10_drain 15 = .ok (.invokestatic 80, 3) := by decide +kernel
theorem dX10_drain_18 : decode cX10_drain 18 = .ok (.ifCond .eq 7, 3) := by decide +kernel
theorem dX10_drain_21 : decode cX10_drain 21 = .ok (.iconst 1, 1) := by decide +kernel
theorem dX10_drain_22 : decode cX10_drain 22 = .ok (.goto 4, 3) := by decide +kernel
theorem dX10_drain_25 : decode cX10_drain 25 = .ok (.iconst 0, 1) := by decide +kernel
theorem dX10_drain_26 : decode cX10_drain 26 = .ok (.istore_n 3, 1) := by decide +kernel
theorem dX10_drain_27 : decode cX10_drain 27 = .ok (.aload_n 0, 1) := by decide +kernel
theorem dX10_drain_28 : decode cX10_drain 28 = .ok (.iload_n 2, 1) := by decide +kernel
theorem dX10_drain_29 : decode cX10_drain 29 = .ok (.ifCond .eq 14, 3) := by decide +kernel
theorem dX10_drain_32 : decode cX10_drain 32 = .ok (.aload_n 0, 1) := by decide +kernel
theorem dX10_drain_33 : decode cX10_drain 33 = .ok (.getfield 76, 3) := by decide +kernel
theorem dX10_drain_36 : decode cX10_drain 36 = .ok (.lconst 1, 1) := by decide +kernel
theorem dX10_drain_37 : decode cX10_drain 37 = .ok (.iload_n 1, 1) := by decide +kernel
theorem dX10_drain_38 : decode cX10_drain 38 = .ok (.lshl, 1) := by decide +kernel
theorem dX10_drain_39 : decode cX10_drain 39 = .ok (.lor, 1) := by decide +kernel
theorem dX10_drain_40 : decode cX10_drain 40 = .ok (.goto 15, 3) := by decide +kernel
theorem dX10_drain_43 : decode cX10_drain 43 = .ok (.aload_n 0, 1) := by decide +kernel
theorem dX10_drain_44 : decode cX10_drain 44 = .ok (.getfield 76, 3) := by decide +kernel
theorem dX10_drain_47 : decode cX10_drain 47 = .ok (.lconst 1, 1) := by decide +kernel
theorem dX10_drain_48 : decode cX10_drain 48 = .ok (.iload_n 1, 1) := by decide +kernel
theorem dX10_drain_49 : decode cX10_drain 49 = .ok (.lshl, 1) := by decide +kernel
theorem dX10_drain_50 : decode cX10_drain 50 = .ok (.ldc2_w 84, 3) := by decide +kernel
theorem dX10_drain_53 : decode cX10_drain 53 = .ok (.lxor, 1) := by decide +kernel
theorem dX10_drain_54 : decode cX10_drain 54 = .ok (.land, 1) := by decide +kernel
theorem dX10_drain_55 : decode cX10_drain 55 = .ok (.putfield 76, 3) := by decide +kernel
theorem dX10_drain_58 : decode cX10_drain 58 = .ok (.iload_n 3, 1) := by decide +kernel
theorem dX10_drain_59 : decode cX10_drain 59 = .ok (.ireturn, 1) := by decide +kernel
set_option maxRecDepth 20000 in
theorem ggX10_tuft_X10_isCell : GoodIn wsX10_tuft wsX10_isCell := goodIn_r _ [6, 7, 8, 9, 5, 10] (by decide +kernel) (by decide +kernel)
set_option maxRecDepth 20000 in
theorem gX10_tuft_X10_isCell : GoodIn wsX10_tuft (va_wsS RX10 72 yX10_isCell wsX10_isCell) := goodIn_app (goodIn_of _ (by decide +kernel)) ggX10_tuft_X10_isCell
theorem dX10_tuft_0 : decode cX10_tuft 0 = .ok (.iload_n 1, 1) := by decide +kernel
theorem dX10_tuft_1 : decode cX10_tuft 1 = .ok (.i2l, 1) := by decide +kernel
theorem dX10_tuft_2 : decode cX10_tuft 2 = .ok (.invokestatic 72, 3) := by decide +kernel
theorem dX10_tuft_5 : decode cX10_tuft 5 = .ok (.ifCond .ne 5, 3) := by decide +kernel
theorem dX10_tuft_8 : decode cX10_tuft 8 = .ok (.iconst (-1), 1) := by decide +kernel
theorem dX10_tuft_9 : decode cX10_tuft 9 = .ok (.ireturn, 1) := by decide +kernel
theorem dX10_tuft_10 : decode cX10_tuft 10 = .ok (.aload_n 0, 1) := by decide +kernel
theorem dX10_tuft_11 : decode cX10_tuft 11 = .ok (.getfield 65, 3) := by decide +kernel
theorem dX10_tuft_14 : decode cX10_tuft 14 = .ok (.bipush 6, 2) := by decide +kernel
theorem dX10_tuft_16 : decode cX10_tuft 16 = .ok (.if_icmp .ne 6, 3) := by decide +kernel
theorem dX10_tuft_19 : decode cX10_tuft 19 = .ok (.bipush (-3), 2) := by decide +kernel
theorem dX10_tuft_21 : decode cX10_tuft 21 = .ok (.ireturn, 1) := by decide +kernel
theorem dX10_tuft_22 : decode cX10_tuft 22 = .ok (.aload_n 0, 1) := by decide +kernel
theorem dX10_tuft_23 : decode cX10_tuft 23 = .ok (.getfield 7, 3) := by decide +kernel
theorem dX10_tuft_26 : decode cX10_tuft 26 = .ok (.aload_n 0, 1) := by decide +kernel
theorem dX10_tuft_27 : decode cX10_tuft 27 = .ok (.getfield 65, 3) := by decide +kernel
theorem dX10_tuft_30 : decode cX10_tuft 30 = .ok (.iload_n 1, 1) := by decide +kernel
theorem dX10_tuft_31 : decode cX10_tuft 31 = .ok (.iastore, 1) := by decide +kernel
theorem dX10_tuft_32 : decode cX10_tuft 32 = .ok (.aload_n 0, 1) := by decide +kernel
theorem dX10_tuft_33 : decode cX10_tuft 33 = .ok (.dup, 1) := by decide +kernel
theorem dX10_tuft_34 : decode cX10_tuft 34 = .ok (.getfield 65, 3) := by decide +kernel
theorem dX10_tuft_37 : decode cX10_tuft 37 = .ok (.iconst 1, 1) := by decide +kernel
theorem dX10_tuft_38 : decode cX10_tuft 38 = .ok (.iadd, 1) := by decide +kernel
theorem dX10_tuft_39 : decode cX10_tuft 39 = .ok (.putfield 65, 3) := by decide +kernel
theorem dX10_tuft_42 : decode cX10_tuft 42 = .ok (.aload_n 0, 1) := by decide +kernel
theorem dX10_tuft_43 : decode cX10_tuft 43 = .ok (.getfield 65, 3) := by decide +kernel
theorem dX10_tuft_46 : decode cX10_tuft 46 = .ok (.iconst 1, 1) := by decide +kernel
theorem dX10_tuft_47 : decode cX10_tuft 47 = .ok (.isub, 1) := by decide +kernel
theorem dX10_tuft_48 : decode cX10_tuft 48 = .ok (.ireturn, 1) := by decide +kernel
set_option maxRecDepth 20000 in
theorem ggX10_plant_X10_isTuft : GoodIn wsX10_plant wsX10_isTuft := goodIn_r _ [6, 7, 8, 9, 5, 10, 15, 16, 17, 18, 19, 20, 21, 22, 23, 24, 25, 26, 27, 28, 29, 30, 31, 32, 33, 34, 35, 36, 37, 38, 39, 40, 41, 42, 43, 44] (by decide +kernel) (by decide +kernel)
set_option maxRecDepth 20000 in
theorem gX10_plant_X10_isTuft : GoodIn wsX10_plant (wsV RX10 86 RX10 yX10_isTuft wsX10_isTuft) := goodIn_app (goodIn_of _ (by decide +kernel)) ggX10_plant_X10_isTuft
set_option maxRecDepth 20000 in
theorem ggX10_plant_X10_isCell : GoodIn wsX10_plant wsX10_isCell := goodIn_r _ [13, 14, 8, 9, 5, 10] (by decide +kernel) (by decide +kernel)
set_option maxRecDepth 20000 in
theorem gX10_plant_X10_isCell : GoodIn wsX10_plant (va_wsS RX10 72 yX10_isCell wsX10_isCell) := goodIn_app (goodIn_of _ (by decide +kernel)) ggX10_plant_X10_isCell
theorem dX10_plant_0 : decode cX10_plant 0 = .ok (.aload_n 0, 1) := by decide +kernel
theorem dX10_plant_1 : decode cX10_plant 1 = .ok (.iload_n 1, 1) := by decide +kernel
theorem dX10_plant_2 : decode cX10_plant 2 = .ok (.invokevirtual 86, 3) := by decide +kernel
theorem dX10_plant_5 : decode cX10_plant 5 = .ok (.ifCond .eq 11, 3) := by decide +kernel
theorem dX10_plant_8 : decode cX10_plant 8 = .ok (.iload_n 2, 1) := by decide +kernel
theorem dX10_plant_9 : decode cX10_plant 9 = .ok (.i2l, 1) := by decide +kernel
theorem dX10_plant_10 : decode cX10_plant 10 = .ok (.invokestatic 72, 3) := by decide +kernel
theorem dX10_plant_13 : decode cX10_plant 13 = .ok (.ifCond .ne 5, 3) := by decide +kernel
theorem dX10_plant_16 : decode cX10_plant 16 = .ok (.iconst (-1), 1) := by decide +kernel
theorem dX10_plant_17 : decode cX10_plant 17 = .ok (.ireturn, 1) := by decide +kernel
theorem dX10_plant_18 : decode cX10_plant 18 = .ok (.aload_n 0, 1) := by decide +kernel
theorem dX10_plant_19 : decode cX10_plant 19 = .ok (.getfield 7, 3) := by decide +kernel
theorem dX10_plant_22 : decode cX10_plant 22 = .ok (.iload_n 1, 1) := by decide +kernel
theorem dX10_plant_23 : decode cX10_plant 23 = .ok (.iaload, 1) := by decide +kernel
theorem dX10_plant_24 : decode cX10_plant 24 = .ok (.istore_n 3, 1) := by decide +kernel
theorem dX10_plant_25 : decode cX10_plant 25 = .ok (.aload_n 0, 1) := by decide +kernel
theorem dX10_plant_26 : decode cX10_plant 26 = .ok (.getfield 7, 3) := by decide +kernel
theorem dX10_plant_29 : decode cX10_plant 29 = .ok (.iload_n 1, 1) := by decide +kernel
theorem dX10_plant_30 : decode cX10_plant 30 = .ok (.iload_n 2, 1) := by decide +kernel
theorem dX10_plant_31 : decode cX10_plant 31 = .ok (.iastore, 1) := by decide +kernel
theorem dX10_plant_32 : decode cX10_plant 32 = .ok (.iload_n 3, 1) := by decide +kernel
theorem dX10_plant_33 : decode cX10_plant 33 = .ok (.ireturn, 1) := by decide +kernel
set_option maxRecDepth 20000 in
theorem ggX10_person_X10_in : GoodIn wsX10_person wsX10_in := goodIn_r _ [10] (by decide +kernel) (by decide +kernel)
set_option maxRecDepth 20000 in
theorem gX10_person_X10_in : GoodIn wsX10_person (va_wsS RX10 61 yX10_in wsX10_in) := goodIn_app (goodIn_of _ (by decide +kernel)) ggX10_person_X10_in
theorem dX10_person_0 : decode cX10_person 0 = .ok (.iload_n 1, 1) := by decide +kernel
theorem dX10_person_1 : decode cX10_person 1 = .ok (.i2l, 1) := by decide +kernel
theorem dX10_person_2 : decode cX10_person 2 = .ok (.lconst 0, 1) := by decide +kernel
theorem dX10_person_3 : decode cX10_person 3 = .ok (.ldc2_w 90, 3) := by decide +kernel
theorem dX10_person_6 : decode cX10_person 6 = .ok (.invokestatic 61, 3) := by decide +kernel
theorem dX10_person_9 : decode cX10_person 9 = .ok (.ifCond .ne 5, 3) := by decide +kernel
theorem dX10_person_12 : decode cX10_person 12 = .ok (.iconst (-1), 1) := by decide +kernel
theorem dX10_person_13 : decode cX10_person 13 = .ok (.ireturn, 1) := by decide +kernel
theorem dX10_person_14 : decode cX10_person 14 = .ok (.aload_n 0, 1) := by decide +kernel
theorem dX10_person_15 : decode cX10_person 15 = .ok (.getfield 69, 3) := by decide +kernel
theorem dX10_person_18 : decode cX10_person 18 = .ok (.bipush 6, 2) := by decide +kernel
theorem dX10_person_20 : decode cX10_person 20 = .ok (.if_icmp .ne 6, 3) := by decide +kernel
theorem dX10_person_23 : decode cX10_person 23 = .ok (.bipush (-3), 2) := by decide +kernel
theorem dX10_person_25 : decode cX10_person 25 = .ok (.ireturn, 1) := by decide +kernel
theorem dX10_person_26 : decode cX10_person 26 = .ok (.aload_n 0, 1) := by decide +kernel
theorem dX10_person_27 : decode cX10_person 27 = .ok (.getfield 13, 3) := by decide +kernel
theorem dX10_person_30 : decode cX10_person 30 = .ok (.aload_n 0, 1) := by decide +kernel
theorem dX10_person_31 : decode cX10_person 31 = .ok (.getfield 69, 3) := by decide +kernel
theorem dX10_person_34 : decode cX10_person 34 = .ok (.iload_n 1, 1) := by decide +kernel
theorem dX10_person_35 : decode cX10_person 35 = .ok (.iastore, 1) := by decide +kernel
theorem dX10_person_36 : decode cX10_person 36 = .ok (.aload_n 0, 1) := by decide +kernel
theorem dX10_person_37 : decode cX10_person 37 = .ok (.getfield 19, 3) := by decide +kernel
theorem dX10_person_40 : decode cX10_person 40 = .ok (.aload_n 0, 1) := by decide +kernel
theorem dX10_person_41 : decode cX10_person 41 = .ok (.getfield 69, 3) := by decide +kernel
theorem dX10_person_44 : decode cX10_person 44 = .ok (.iconst 0, 1) := by decide +kernel
theorem dX10_person_45 : decode cX10_person 45 = .ok (.iastore, 1) := by decide +kernel
theorem dX10_person_46 : decode cX10_person 46 = .ok (.aload_n 0, 1) := by decide +kernel
theorem dX10_person_47 : decode cX10_person 47 = .ok (.getfield 16, 3) := by decide +kernel
theorem dX10_person_50 : decode cX10_person 50 = .ok (.aload_n 0, 1) := by decide +kernel
theorem dX10_person_51 : decode cX10_person 51 = .ok (.getfield 69, 3) := by decide +kernel
theorem dX10_person_54 : decode cX10_person 54 = .ok (.iconst 0, 1) := by decide +kernel
theorem dX10_person_55 : decode cX10_person 55 = .ok (.iastore, 1) := by decide +kernel
theorem dX10_person_56 : decode cX10_person 56 = .ok (.aload_n 0, 1) := by decide +kernel
theorem dX10_person_57 : decode cX10_person 57 = .ok (.getfield 22, 3) := by decide +kernel
theorem dX10_person_60 : decode cX10_person 60 = .ok (.aload_n 0, 1) := by decide +kernel
theorem dX10_person_61 : decode cX10_person 61 = .ok (.getfield 69, 3) := by decide +kernel
theorem dX10_person_64 : decode cX10_person 64 = .ok (.iconst 0, 1) := by decide +kernel
theorem dX10_person_65 : decode cX10_person 65 = .ok (.iastore, 1) := by decide +kernel
theorem dX10_person_66 : decode cX10_person 66 = .ok (.aload_n 0, 1) := by decide +kernel
theorem dX10_person_67 : decode cX10_person 67 = .ok (.dup, 1) := by decide +kernel
theorem dX10_person_68 : decode cX10_person 68 = .ok (.getfield 69, 3) := by decide +kernel
theorem dX10_person_71 : decode cX10_person 71 = .ok (.iconst 1, 1) := by decide +kernel
theorem dX10_person_72 : decode cX10_person 72 = .ok (.iadd, 1) := by decide +kernel
theorem dX10_person_73 : decode cX10_person 73 = .ok (.putfield 69, 3) := by decide +kernel
theorem dX10_person_76 : decode cX10_person 76 = .ok (.aload_n 0, 1) := by decide +kernel
theorem dX10_person_77 : decode cX10_person 77 = .ok (.getfield 69, 3) := by decide +kernel
theorem dX10_person_80 : decode cX10_person 80 = .ok (.iconst 1, 1) := by decide +kernel
theorem dX10_person_81 : decode cX10_person 81 = .ok (.isub, 1) := by decide +kernel
theorem dX10_person_82 : decode cX10_person 82 = .ok (.ireturn, 1) := by decide +kernel
set_option maxRecDepth 20000 in
theorem ggX10_sit_X10_isOne : GoodIn wsX10_sit wsX10_isOne := goodIn_r _ [8, 9, 10, 11, 7, 12, 17, 18, 19, 20, 21, 22, 23, 24, 25, 26, 27, 28, 29, 30, 31, 32, 33, 34, 35, 36, 37, 38, 39, 40, 41, 42, 43, 44, 45, 46] (by decide +kernel) (by decide +kernel)
set_option maxRecDepth 20000 in
theorem gX10_sit_X10_isOne : GoodIn wsX10_sit (wsV RX10 92 RX10 yX10_isOne wsX10_isOne) := goodIn_app (goodIn_of _ (by decide +kernel)) ggX10_sit_X10_isOne
set_option maxRecDepth 20000 in
theorem ggX10_sit_X10_isCell : GoodIn wsX10_sit wsX10_isCell := goodIn_r _ [15, 16, 10, 11, 7, 12] (by decide +kernel) (by decide +kernel)
set_option maxRecDepth 20000 in
theorem gX10_sit_X10_isCell : GoodIn wsX10_sit (va_wsS RX10 72 yX10_isCell wsX10_isCell) := goodIn_app (goodIn_of _ (by decide +kernel)) ggX10_sit_X10_isCell
set_option maxRecDepth 20000 in
theorem ggX10_sit_X10_in : GoodIn wsX10_sit wsX10_in := goodIn_r _ [12] (by decide +kernel) (by decide +kernel)
set_option maxRecDepth 20000 in
theorem gX10_sit_X10_in : GoodIn wsX10_sit (va_wsS RX10 61 yX10_in wsX10_in) := goodIn_app (goodIn_of _ (by decide +kernel)) ggX10_sit_X10_in
theorem dX10_sit_0 : decode cX10_sit 0 = .ok (.aload_n 0, 1) := by decide +kernel
theorem dX10_sit_1 : decode cX10_sit 1 = .ok (.iload_n 1, 1) := by decide +kernel
theorem dX10_sit_2 : decode cX10_sit 2 = .ok (.invokevirtual 92, 3) := by decide +kernel
theorem dX10_sit_5 : decode cX10_sit 5 = .ok (.ifCond .eq 23, 3) := by decide +kernel
theorem dX10_sit_8 : decode cX10_sit 8 = .ok (.iload_n 2, 1) := by decide +kernel
theorem dX10_sit_9 : decode cX10_sit 9 = .ok (.i2l, 1) := by decide +kernel
theorem dX10_sit_10 : decode cX10_sit 10 = .ok (.invokestatic 72, 3) := by decide +kernel
theorem dX10_sit_13 : decode cX10_sit 13 = .ok (.ifCond .eq 15, 3) := by decide +kernel
theorem dX10_sit_16 : decode cX10_sit 16 = .ok (.iload_n 3, 1) := by decide +kernel
theorem dX10_sit_17 : decode cX10_sit 17 = .ok (.i2l, 1) := by decide +kernel
theorem dX10_sit_18 : decode cX10_sit 18 = .ok (.lconst 0, 1) := by decide +kernel
theorem dX10_sit_19 : decode cX10_sit 19 = .ok (.ldc2_w 95, 3) := by decide +kernel
theorem dX10_sit_22 : decode cX10_sit 22 = .ok (.invokestatic 61, 3) := by decide +kernel
theorem dX10_sit_25 : decode cX10_sit 25 = .ok (.ifCond .ne 5, 3) := by decide +kernel
theorem dX10_sit_28 : decode cX10_sit 28 = .ok (.iconst (-1), 1) := by decide +kernel
theorem dX10_sit_29 : decode cX10_sit 29 = .ok (.ireturn, 1) := by decide +kernel
theorem dX10_sit_30 : decode cX10_sit 30 = .ok (.aload_n 0, 1) := by decide +kernel
theorem dX10_sit_31 : decode cX10_sit 31 = .ok (.getfield 19, 3) := by decide +kernel
theorem dX10_sit_34 : decode cX10_sit 34 = .ok (.iload_n 1, 1) := by decide +kernel
theorem dX10_sit_35 : decode cX10_sit 35 = .ok (.iaload, 1) := by decide +kernel
theorem dX10_sit_36 : decode cX10_sit 36 = .ok (.istore 4, 2) := by decide +kernel
theorem dX10_sit_38 : decode cX10_sit 38 = .ok (.aload_n 0, 1) := by decide +kernel
theorem dX10_sit_39 : decode cX10_sit 39 = .ok (.getfield 16, 3) := by decide +kernel
theorem dX10_sit_42 : decode cX10_sit 42 = .ok (.iload_n 1, 1) := by decide +kernel
theorem dX10_sit_43 : decode cX10_sit 43 = .ok (.iload_n 2, 1) := by decide +kernel
theorem dX10_sit_44 : decode cX10_sit 44 = .ok (.iastore, 1) := by decide +kernel
theorem dX10_sit_45 : decode cX10_sit 45 = .ok (.aload_n 0, 1) := by decide +kernel
theorem dX10_sit_46 : decode cX10_sit 46 = .ok (.getfield 19, 3) := by decide +kernel
theorem dX10_sit_49 : decode cX10_sit 49 = .ok (.iload_n 1, 1) := by decide +kernel
theorem dX10_sit_50 : decode cX10_sit 50 = .ok (.iload_n 3, 1) := by decide +kernel
theorem dX10_sit_51 : decode cX10_sit 51 = .ok (.iastore, 1) := by decide +kernel
theorem dX10_sit_52 : decode cX10_sit 52 = .ok (.iload 4, 2) := by decide +kernel
theorem dX10_sit_54 : decode cX10_sit 54 = .ok (.ireturn, 1) := by decide +kernel
set_option maxRecDepth 20000 in
theorem ggX10_told_X10_isOne : GoodIn wsX10_told wsX10_isOne := goodIn_r _ [10, 11, 12, 13, 9, 14, 15, 16, 17, 18, 19, 20, 21, 22, 23, 24, 25, 26, 27, 28, 29, 30, 31, 32, 33, 34, 35, 36, 37, 38, 39, 40, 41, 42, 43, 44] (by decide +kernel) (by decide +kernel)
set_option maxRecDepth 20000 in
theorem gX10_told_X10_isOne : GoodIn wsX10_told (wsV RX10 92 RX10 yX10_isOne wsX10_isOne) := goodIn_app (goodIn_of _ (by decide +kernel)) ggX10_told_X10_isOne
set_option maxRecDepth 20000 in
theorem ggX10_told_X10_in : GoodIn wsX10_told wsX10_in := goodIn_r _ [14] (by decide +kernel) (by decide +kernel)
set_option maxRecDepth 20000 in
theorem gX10_told_X10_in : GoodIn wsX10_told (va_wsS RX10 61 yX10_in wsX10_in) := goodIn_app (goodIn_of _ (by decide +kernel)) ggX10_told_X10_in
theorem dX10_told_0 : decode cX10_told 0 = .ok (.aload_n 0, 1) := by decide +kernel
theorem dX10_told_1 : decode cX10_told 1 = .ok (.iload_n 1, 1) := by decide +kernel
theorem dX10_told_2 : decode cX10_told 2 = .ok (.invokevirtual 92, 3) := by decide +kernel
theorem dX10_told_5 : decode cX10_told 5 = .ok (.ifCond .eq 15, 3) := by decide +kernel
theorem dX10_told_8 : decode cX10_told 8 = .ok (.iload_n 2, 1) := by decide +kernel
theorem dX10_told_9 : decode cX10_told 9 = .ok (.i2l, 1) := by decide +kernel
theorem dX10_told_10 : decode cX10_told 10 = .ok (.lconst 0, 1) := by decide +kernel
theorem dX10_told_11 : decode cX10_told 11 = .ok (.ldc2_w 90, 3) := by decide +kernel
theorem dX10_told_14 : decode cX10_told 14 = .ok (.invokestatic 61, 3) := by decide +kernel
theorem dX10_told_17 : decode cX10_told 17 = .ok (.ifCond .ne 5, 3) := by decide +kernel
theorem dX10_told_20 : decode cX10_told 20 = .ok (.iconst (-1), 1) := by decide +kernel
theorem dX10_told_21 : decode cX10_told 21 = .ok (.ireturn, 1) := by decide +kernel
theorem dX10_told_22 : decode cX10_told 22 = .ok (.iload_n 2, 1) := by decide +kernel
theorem dX10_told_23 : decode cX10_told 23 = .ok (.ifCond .ne 12, 3) := by decide +kernel
theorem dX10_told_26 : decode cX10_told 26 = .ok (.aload_n 0, 1) := by decide +kernel
theorem dX10_told_27 : decode cX10_told 27 = .ok (.getfield 13, 3) := by decide +kernel
theorem dX10_told_30 : decode cX10_told 30 = .ok (.iload_n 1, 1) := by decide +kernel
theorem dX10_told_31 : decode cX10_told 31 = .ok (.iaload, 1) := by decide +kernel
theorem dX10_told_32 : decode cX10_told 32 = .ok (.goto 51, 3) := by decide +kernel
theorem dX10_told_35 : decode cX10_told 35 = .ok (.iload_n 2, 1) := by decide +kernel
theorem dX10_told_36 : decode cX10_told 36 = .ok (.iconst 1, 1) := by decide +kernel
theorem dX10_told_37 : decode cX10_told 37 = .ok (.if_icmp .ne 26, 3) := by decide +kernel
theorem dX10_told_40 : decode cX10_told 40 = .ok (.aload_n 0, 1) := by decide +kernel
theorem dX10_told_41 : decode cX10_told 41 = .ok (.getfield 19, 3) := by decide +kernel
theorem dX10_told_44 : decode cX10_told 44 = .ok (.iload_n 1, 1) := by decide +kernel
theorem dX10_told_45 : decode cX10_told 45 = .ok (.iaload, 1) := by decide +kernel
theorem dX10_told_46 : decode cX10_told 46 = .ok (.ifCond .ne 8, 3) := by decide +kernel
theorem dX10_told_49 : decode cX10_told 49 = .ok (.bipush (-4), 2) := by decide +kernel
theorem dX10_told_51 : decode cX10_told 51 = .ok (.goto 32, 3) := by decide +kernel
theorem dX10_told_54 : decode cX10_told 54 = .ok (.aload_n 0, 1) := by decide +kernel
theorem dX10_told_55 : decode cX10_told 55 = .ok (.getfield 16, 3) := by decide +kernel
theorem dX10_told_58 : decode cX10_told 58 = .ok (.iload_n 1, 1) := by decide +kernel
theorem dX10_told_59 : decode cX10_told 59 = .ok (.iaload, 1) := by decide +kernel
theorem dX10_told_60 : decode cX10_told 60 = .ok (.goto 23, 3) := by decide +kernel
theorem dX10_told_63 : decode cX10_told 63 = .ok (.iload_n 2, 1) := by decide +kernel
theorem dX10_told_64 : decode cX10_told 64 = .ok (.iconst 2, 1) := by decide +kernel
theorem dX10_told_65 : decode cX10_told 65 = .ok (.if_icmp .ne 12, 3) := by decide +kernel
theorem dX10_told_68 : decode cX10_told 68 = .ok (.aload_n 0, 1) := by decide +kernel
theorem dX10_told_69 : decode cX10_told 69 = .ok (.getfield 19, 3) := by decide +kernel
theorem dX10_told_72 : decode cX10_told 72 = .ok (.iload_n 1, 1) := by decide +kernel
theorem dX10_told_73 : decode cX10_told 73 = .ok (.iaload, 1) := by decide +kernel
theorem dX10_told_74 : decode cX10_told 74 = .ok (.goto 9, 3) := by decide +kernel
theorem dX10_told_77 : decode cX10_told 77 = .ok (.aload_n 0, 1) := by decide +kernel
theorem dX10_told_78 : decode cX10_told 78 = .ok (.getfield 22, 3) := by decide +kernel
theorem dX10_told_81 : decode cX10_told 81 = .ok (.iload_n 1, 1) := by decide +kernel
theorem dX10_told_82 : decode cX10_told 82 = .ok (.iaload, 1) := by decide +kernel
theorem dX10_told_83 : decode cX10_told 83 = .ok (.ireturn, 1) := by decide +kernel
theorem dX10_counts_0 : decode cX10_counts 0 = .ok (.aload_n 0, 1) := by decide +kernel
theorem dX10_counts_1 : decode cX10_counts 1 = .ok (.getfield 19, 3) := by decide +kernel
theorem dX10_counts_4 : decode cX10_counts 4 = .ok (.iload_n 1, 1) := by decide +kernel
theorem dX10_counts_5 : decode cX10_counts 5 = .ok (.iaload, 1) := by decide +kernel
theorem dX10_counts_6 : decode cX10_counts 6 = .ok (.istore_n 2, 1) := by decide +kernel
theorem dX10_counts_7 : decode cX10_counts 7 = .ok (.aload_n 0, 1) := by decide +kernel
theorem dX10_counts_8 : decode cX10_counts 8 = .ok (.getfield 13, 3) := by decide +kernel
theorem dX10_counts_11 : decode cX10_counts 11 = .ok (.iload_n 1, 1) := by decide +kernel
theorem dX10_counts_12 : decode cX10_counts 12 = .ok (.iaload, 1) := by decide +kernel
theorem dX10_counts_13 : decode cX10_counts 13 = .ok (.ifCond .ne 7, 3) := by decide +kernel
theorem dX10_counts_16 : decode cX10_counts 16 = .ok (.iload_n 2, 1) := by decide +kernel
theorem dX10_counts_17 : decode cX10_counts 17 = .ok (.goto 22, 3) := by decide +kernel
theorem dX10_counts_20 : decode cX10_counts 20 = .ok (.aload_n 0, 1) := by decide +kernel
theorem dX10_counts_21 : decode cX10_counts 21 = .ok (.getfield 13, 3) := by decide +kernel
theorem dX10_counts_24 : decode cX10_counts 24 = .ok (.iload_n 1, 1) := by decide +kernel
theorem dX10_counts_25 : decode cX10_counts 25 = .ok (.iaload, 1) := by decide +kernel
theorem dX10_counts_26 : decode cX10_counts 26 = .ok (.iconst 2, 1) := by decide +kernel
theorem dX10_counts_27 : decode cX10_counts 27 = .ok (.if_icmp .ne 9, 3) := by decide +kernel
theorem dX10_counts_30 : decode cX10_counts 30 = .ok (.iload_n 2, 1) := by decide +kernel
theorem dX10_counts_31 : decode cX10_counts 31 = .ok (.iconst 2, 1) := by decide +kernel
theorem dX10_counts_32 : decode cX10_counts 32 = .ok (.idiv, 1) := by decide +kernel
theorem dX10_counts_33 : decode cX10_counts 33 = .ok (.goto 6, 3) := by decide +kernel
theorem dX10_counts_36 : decode cX10_counts 36 = .ok (.iconst 2, 1) := by decide +kernel
theorem dX10_counts_37 : decode cX10_counts 37 = .ok (.iload_n 2, 1) := by decide +kernel
theorem dX10_counts_38 : decode cX10_counts 38 = .ok (.imul, 1) := by decide +kernel
theorem dX10_counts_39 : decode cX10_counts 39 = .ok (.ireturn, 1) := by decide +kernel
set_option maxRecDepth 20000 in
theorem ggX10_sitsAll_X10_counts : GoodIn wsX10_sitsAll wsX10_counts := goodIn_r _ [10, 5, 11, 12, 13, 14, 15, 16, 17, 18, 19, 20, 21, 22, 23, 24, 25, 26, 27, 28, 29, 30, 31, 32, 33, 34, 35, 36, 37, 38, 39, 40, 41] (by decide +kernel) (by decide +kernel)
set_option maxRecDepth 20000 in
theorem gX10_sitsAll_X10_counts : GoodIn wsX10_sitsAll (wsV RX10 100 RX10 yX10_counts wsX10_counts) := goodIn_app (goodIn_of _ (by decide +kernel)) ggX10_sitsAll_X10_counts
theorem dX10_sitsAll_0 : decode cX10_sitsAll 0 = .ok (.aload_n 0, 1) := by decide +kernel
theorem dX10_sitsAll_1 : decode cX10_sitsAll 1 = .ok (.lconst 0, 1) := by decide +kernel
theorem dX10_sitsAll_2 : decode cX10_sitsAll 2 = .ok (.putfield 97, 3) := by decide +kernel
theorem dX10_sitsAll_5 : decode cX10_sitsAll 5 = .ok (.iconst 0, 1) := by decide +kernel
theorem dX10_sitsAll_6 : decode cX10_sitsAll 6 = .ok (.istore_n 1, 1) := by decide +kernel
theorem dX10_sitsAll_7 : decode cX10_sitsAll 7 = .ok (.iload_n 1, 1) := by decide +kernel
theorem dX10_sitsAll_8 : decode cX10_sitsAll 8 = .ok (.aload_n 0, 1) := by decide +kernel
theorem dX10_sitsAll_9 : decode cX10_sitsAll 9 = .ok (.getfield 69, 3) := by decide +kernel
theorem dX10_sitsAll_12 : decode cX10_sitsAll 12 = .ok (.if_icmp .ge 21, 3) := by decide +kernel
theorem dX10_sitsAll_15 : decode cX10_sitsAll 15 = .ok (.aload_n 0, 1) := by decide +kernel
theorem dX10_sitsAll_16 : decode cX10_sitsAll 16 = .ok (.getfield 25, 3) := by decide +kernel
theorem dX10_sitsAll_19 : decode cX10_sitsAll 19 = .ok (.aload_n 0, 1) := by decide +kernel
theorem dX10_sitsAll_20 : decode cX10_sitsAll 20 = .ok (.getfield 16, 3) := by decide +kernel
theorem dX10_sitsAll_23 : decode cX10_sitsAll 23 = .ok (.iload_n 1, 1) := by decide +kernel
theorem dX10_sitsAll_24 : decode cX10_sitsAll 24 = .ok (.iaload, 1) := by decide +kernel
theorem dX10_sitsAll_25 : decode cX10_sitsAll 25 = .ok (.iconst 0, 1) := by decide +kernel
theorem dX10_sitsAll_26 : decode cX10_sitsAll 26 = .ok (.iastore, 1) := by decide +kernel
theorem dX10_sitsAll_27 : decode cX10_sitsAll 27 = .ok (.iinc 1 1, 3) := by decide +kernel
theorem dX10_sitsAll_30 : decode cX10_sitsAll 30 = .ok (.goto (-23), 3) := by decide +kernel
theorem dX10_sitsAll_33 : decode cX10_sitsAll 33 = .ok (.iconst 0, 1) := by decide +kernel
theorem dX10_sitsAll_34 : decode cX10_sitsAll 34 = .ok (.istore_n 1, 1) := by decide +kernel
theorem dX10_sitsAll_35 : decode cX10_sitsAll 35 = .ok (.iload_n 1, 1) := by decide +kernel
theorem dX10_sitsAll_36 : decode cX10_sitsAll 36 = .ok (.aload_n 0, 1) := by decide +kernel
theorem dX10_sitsAll_37 : decode cX10_sitsAll 37 = .ok (.getfield 69, 3) := by decide +kernel
theorem dX10_sitsAll_40 : decode cX10_sitsAll 40 = .ok (.if_icmp .ge 54, 3) := by decide +kernel
theorem dX10_sitsAll_43 : decode cX10_sitsAll 43 = .ok (.aload_n 0, 1) := by decide +kernel
theorem dX10_sitsAll_44 : decode cX10_sitsAll 44 = .ok (.getfield 19, 3) := by decide +kernel
theorem dX10_sitsAll_47 : decode cX10_sitsAll 47 = .ok (.iload_n 1, 1) := by decide +kernel
theorem dX10_sitsAll_48 : decode cX10_sitsAll 48 = .ok (.iaload, 1) := by decide +kernel
theorem dX10_sitsAll_49 : decode cX10_sitsAll 49 = .ok (.ifCond .le 39, 3) := by decide +kernel
theorem dX10_sitsAll_52 : decode cX10_sitsAll 52 = .ok (.aload_n 0, 1) := by decide +kernel
theorem dX10_sitsAll_53 : decode cX10_sitsAll 53 = .ok (.dup, 1) := by decide +kernel
theorem dX10_sitsAll_54 : decode cX10_sitsAll 54 = .ok (.getfield 97, 3) := by decide +kernel
theorem dX10_sitsAll_57 : decode cX10_sitsAll 57 = .ok (.lconst 1, 1) := by decide +kernel
theorem dX10_sitsAll_58 : decode cX10_sitsAll 58 = .ok (.aload_n 0, 1) := by decide +kernel
theorem dX10_sitsAll_59 : decode cX10_sitsAll 59 = .ok (.getfield 16, 3) := by decide +kernel
theorem dX10_sitsAll_62 : decode cX10_sitsAll 62 = .ok (.iload_n 1, 1) := by decide +kernel
theorem dX10_sitsAll_63 : decode cX10_sitsAll 63 = .ok (.iaload, 1) := by decide +kernel
theorem dX10_sitsAll_64 : decode cX10_sitsAll 64 = .ok (.lshl, 1) := by decide +kernel
theorem dX10_sitsAll_65 : decode cX10_sitsAll 65 = .ok (.lor, 1) := by decide +kernel
theorem dX10_sitsAll_66 : decode cX10_sitsAll 66 = .ok (.putfield 97, 3) := by decide +kernel
theorem dX10_sitsAll_69 : decode cX10_sitsAll 69 = .ok (.aload_n 0, 1) := by decide +kernel
theorem dX10_sitsAll_70 : decode cX10_sitsAll 70 = .ok (.getfield 25, 3) := by decide +kernel
theorem dX10_sitsAll_73 : decode cX10_sitsAll 73 = .ok (.aload_n 0, 1) := by decide +kernel
theorem dX10_sitsAll_74 : decode cX10_sitsAll 74 = .ok (.getfield 16, 3) := by decide +kernel
theorem dX10_sitsAll_77 : decode cX10_sitsAll 77 = .ok (.iload_n 1, 1) := by decide +kernel
theorem dX10_sitsAll_78 : decode cX10_sitsAll 78 = .ok (.iaload, 1) := by decide +kernel
theorem dX10_sitsAll_79 : decode cX10_sitsAll 79 = .ok (.dup2, 1) := by decide +kernel
theorem dX10_sitsAll_80 : decode cX10_sitsAll 80 = .ok (.iaload, 1) := by decide +kernel
theorem dX10_sitsAll_81 : decode cX10_sitsAll 81 = .ok (.aload_n 0, 1) := by decide +kernel
theorem dX10_sitsAll_82 : decode cX10_sitsAll 82 = .ok (.iload_n 1, 1) := by decide +kernel
theorem dX10_sitsAll_83 : decode cX10_sitsAll 83 = .ok (.invokevirtual 100, 3) := by decide +kernel
theorem dX10_sitsAll_86 : decode cX10_sitsAll 86 = .ok (.iadd, 1) := by decide +kernel
theorem dX10_sitsAll_87 : decode cX10_sitsAll 87 = .ok (.iastore, 1) := by decide +kernel
theorem dX10_sitsAll_88 : decode cX10_sitsAll 88 = .ok (.iinc 1 1, 3) := by decide +kernel
theorem dX10_sitsAll_91 : decode cX10_sitsAll 91 = .ok (.goto (-56), 3) := by decide +kernel
theorem dX10_sitsAll_94 : decode cX10_sitsAll 94 = .ok (.return_, 1) := by decide +kernel
theorem dX10_apart_0 : decode cX10_apart 0 = .ok (.iload_n 0, 1) := by decide +kernel
theorem dX10_apart_1 : decode cX10_apart 1 = .ok (.bipush 6, 2) := by decide +kernel
theorem dX10_apart_3 : decode cX10_apart 3 = .ok (.idiv, 1) := by decide +kernel
theorem dX10_apart_4 : decode cX10_apart 4 = .ok (.iload_n 1, 1) := by decide +kernel
theorem dX10_apart_5 : decode cX10_apart 5 = .ok (.bipush 6, 2) := by decide +kernel
theorem dX10_apart_7 : decode cX10_apart 7 = .ok (.idiv, 1) := by decide +kernel
theorem dX10_apart_8 : decode cX10_apart 8 = .ok (.isub, 1) := by decide +kernel
theorem dX10_apart_9 : decode cX10_apart 9 = .ok (.istore_n 2, 1) := by decide +kernel
theorem dX10_apart_10 : decode cX10_apart 10 = .ok (.iload_n 0, 1) := by decide +kernel
theorem dX10_apart_11 : decode cX10_apart 11 = .ok (.bipush 6, 2) := by decide +kernel
theorem dX10_apart_13 : decode cX10_apart 13 = .ok (.irem, 1) := by decide +kernel
theorem dX10_apart_14 : decode cX10_apart 14 = .ok (.iload_n 1, 1) := by decide +kernel
theorem dX10_apart_15 : decode cX10_apart 15 = .ok (.bipush 6, 2) := by decide +kernel
theorem dX10_apart_17 : decode cX10_apart 17 = .ok (.irem, 1) := by decide +kernel
theorem dX10_apart_18 : decode cX10_apart 18 = .ok (.isub, 1) := by decide +kernel
theorem dX10_apart_19 : decode cX10_apart 19 = .ok (.istore_n 3, 1) := by decide +kernel
theorem dX10_apart_20 : decode cX10_apart 20 = .ok (.iload_n 2, 1) := by decide +kernel
theorem dX10_apart_21 : decode cX10_apart 21 = .ok (.ifCond .ge 8, 3) := by decide +kernel
theorem dX10_apart_24 : decode cX10_apart 24 = .ok (.iload_n 2, 1) := by decide +kernel
theorem dX10_apart_25 : decode cX10_apart 25 = .ok (.ineg, 1) := by decide +kernel
theorem dX10_apart_26 : decode cX10_apart 26 = .ok (.goto 4, 3) := by decide +kernel
theorem dX10_apart_29 : decode cX10_apart 29 = .ok (.iload_n 2, 1) := by decide +kernel
theorem dX10_apart_30 : decode cX10_apart 30 = .ok (.iload_n 3, 1) := by decide +kernel
theorem dX10_apart_31 : decode cX10_apart 31 = .ok (.ifCond .ge 8, 3) := by decide +kernel
theorem dX10_apart_34 : decode cX10_apart 34 = .ok (.iload_n 3, 1) := by decide +kernel
theorem dX10_apart_35 : decode cX10_apart 35 = .ok (.ineg, 1) := by decide +kernel
theorem dX10_apart_36 : decode cX10_apart 36 = .ok (.goto 4, 3) := by decide +kernel
theorem dX10_apart_39 : decode cX10_apart 39 = .ok (.iload_n 3, 1) := by decide +kernel
theorem dX10_apart_40 : decode cX10_apart 40 = .ok (.iadd, 1) := by decide +kernel
theorem dX10_apart_41 : decode cX10_apart 41 = .ok (.ireturn, 1) := by decide +kernel
set_option maxRecDepth 20000 in
theorem ggX10_of_X10_isCell : GoodIn wsX10_of wsX10_isCell := goodIn_r _ [11, 12, 13, 14, 10, 15] (by decide +kernel) (by decide +kernel)
set_option maxRecDepth 20000 in
theorem gX10_of_X10_isCell : GoodIn wsX10_of (va_wsS RX10 72 yX10_isCell wsX10_isCell) := goodIn_app (goodIn_of _ (by decide +kernel)) ggX10_of_X10_isCell
set_option maxRecDepth 20000 in
theorem ggX10_of_X10_in : GoodIn wsX10_of wsX10_in := goodIn_r _ [15] (by decide +kernel) (by decide +kernel)
set_option maxRecDepth 20000 in
theorem gX10_of_X10_in : GoodIn wsX10_of (va_wsS RX10 61 yX10_in wsX10_in) := goodIn_app (goodIn_of _ (by decide +kernel)) ggX10_of_X10_in
set_option maxRecDepth 20000 in
theorem ggX10_of_X10_sitsAll : GoodIn wsX10_of wsX10_sitsAll := goodIn_r _ [19, 6, 20, 7, 21, 22, 23, 24, 25, 10, 26, 27, 36, 37, 38, 39, 40, 41, 42, 43, 44, 45, 46, 47, 48, 49, 50, 51, 52, 53, 54, 55, 56, 57, 58, 59, 60, 61, 62, 63, 64, 65] (by decide +kernel) (by decide +kernel)
set_option maxRecDepth 20000 in
theorem gX10_of_X10_sitsAll : GoodIn wsX10_of (wsV RX10 104 RX10 yX10_sitsAll wsX10_sitsAll) := goodIn_app (goodIn_of _ (by decide +kernel)) ggX10_of_X10_sitsAll
set_option maxRecDepth 20000 in
theorem ggX10_of_X10_has : GoodIn wsX10_of wsX10_has := goodIn_r _ [30] (by decide +kernel) (by decide +kernel)
set_option maxRecDepth 20000 in
theorem gX10_of_X10_has : GoodIn wsX10_of (va_wsS RX10 80 yX10_has wsX10_has) := goodIn_app (goodIn_of _ (by decide +kernel)) ggX10_of_X10_has
set_option maxRecDepth 20000 in
theorem ggX10_of_X10_walks : GoodIn wsX10_of wsX10_walks := goodIn_r _ [34, 2, 35, 36, 37, 38, 39, 40, 41, 42, 43, 44, 45, 46, 47, 48, 49, 50, 51, 52, 53, 54, 55, 56, 57, 58, 59, 60, 61, 62, 63, 64, 65] (by decide +kernel) (by decide +kernel)
set_option maxRecDepth 20000 in
theorem gX10_of_X10_walks : GoodIn wsX10_of (wsV RX10 110 RX10 yX10_walks wsX10_walks) := goodIn_app (goodIn_of _ (by decide +kernel)) ggX10_of_X10_walks
theorem dX10_of_0 : decode cX10_of 0 = .ok (.iload_n 1, 1) := by decide +kernel
theorem dX10_of_1 : decode cX10_of 1 = .ok (.i2l, 1) := by decide +kernel
theorem dX10_of_2 : decode cX10_of 2 = .ok (.invokestatic 72, 3) := by decide +kernel
theorem dX10_of_5 : decode cX10_of 5 = .ok (.ifCond .eq 15, 3) := by decide +kernel
theorem dX10_of_8 : decode cX10_of 8 = .ok (.iload_n 2, 1) := by decide +kernel
theorem dX10_of_9 : decode cX10_of 9 = .ok (.i2l, 1) := by decide +kernel
theorem dX10_of_10 : decode cX10_of 10 = .ok (.lconst 0, 1) := by decide +kernel
theorem dX10_of_11 : decode cX10_of 11 = .ok (.ldc2_w 90, 3) := by decide +kernel
theorem dX10_of_14 : decode cX10_of 14 = .ok (.invokestatic 61, 3) := by decide +kernel
theorem dX10_of_17 : decode cX10_of 17 = .ok (.ifCond .ne 5, 3) := by decide +kernel
theorem dX10_of_20 : decode cX10_of 20 = .ok (.iconst (-1), 1) := by decide +kernel
theorem dX10_of_21 : decode cX10_of 21 = .ok (.ireturn, 1) := by decide +kernel
theorem dX10_of_22 : decode cX10_of 22 = .ok (.iconst 0, 1) := by decide +kernel
theorem dX10_of_23 : decode cX10_of 23 = .ok (.istore_n 3, 1) := by decide +kernel
theorem dX10_of_24 : decode cX10_of 24 = .ok (.iconst 0, 1) := by decide +kernel
theorem dX10_of_25 : decode cX10_of 25 = .ok (.istore 4, 2) := by decide +kernel
theorem dX10_of_27 : decode cX10_of 27 = .ok (.iload 4, 2) := by decide +kernel
theorem dX10_of_29 : decode cX10_of 29 = .ok (.aload_n 0, 1) := by decide +kernel
theorem dX10_of_30 : decode cX10_of 30 = .ok (.getfield 65, 3) := by decide +kernel
theorem dX10_of_33 : decode cX10_of 33 = .ok (.if_icmp .ge 28, 3) := by decide +kernel
theorem dX10_of_36 : decode cX10_of 36 = .ok (.iload_n 3, 1) := by decide +kernel
theorem dX10_of_37 : decode cX10_of 37 = .ok (.aload_n 0, 1) := by decide +kernel
theorem dX10_of_38 : decode cX10_of 38 = .ok (.getfield 7, 3) := by decide +kernel
theorem dX10_of_41 : decode cX10_of 41 = .ok (.iload 4, 2) := by decide +kernel
theorem dX10_of_43 : decode cX10_of 43 = .ok (.iaload, 1) := by decide +kernel
theorem dX10_of_44 : decode cX10_of 44 = .ok (.iload_n 1, 1) := by decide +kernel
theorem dX10_of_45 : decode cX10_of 45 = .ok (.if_icmp .ne 7, 3) := by decide +kernel
theorem dX10_of_48 : decode cX10_of 48 = .ok (.iconst 1, 1) := by decide +kernel
theorem dX10_of_49 : decode cX10_of 49 = .ok (.goto 4, 3) := by decide +kernel
theorem dX10_of_52 : decode cX10_of 52 = .ok (.iconst 0, 1) := by decide +kernel
theorem dX10_of_53 : decode cX10_of 53 = .ok (.iadd, 1) := by decide +kernel
theorem dX10_of_54 : decode cX10_of 54 = .ok (.istore_n 3, 1) := by decide +kernel
theorem dX10_of_55 : decode cX10_of 55 = .ok (.iinc 4 1, 3) := by decide +kernel
theorem dX10_of_58 : decode cX10_of 58 = .ok (.goto (-31), 3) := by decide +kernel
theorem dX10_of_61 : decode cX10_of 61 = .ok (.aload_n 0, 1) := by decide +kernel
theorem dX10_of_62 : decode cX10_of 62 = .ok (.invokevirtual 104, 3) := by decide +kernel
theorem dX10_of_65 : decode cX10_of 65 = .ok (.iload_n 2, 1) := by decide +kernel
theorem dX10_of_66 : decode cX10_of 66 = .ok (.ifCond .ne 22, 3) := by decide +kernel
theorem dX10_of_69 : decode cX10_of 69 = .ok (.aload_n 0, 1) := by decide +kernel
theorem dX10_of_70 : decode cX10_of 70 = .ok (.getfield 76, 3) := by decide +kernel
theorem dX10_of_73 : decode cX10_of 73 = .ok (.iload_n 1, 1) := by decide +kernel
theorem dX10_of_74 : decode cX10_of 74 = .ok (.invokestatic 80, 3) := by decide +kernel
theorem dX10_of_77 : decode cX10_of 77 = .ok (.ifCond .eq 7, 3) := by decide +kernel
theorem dX10_of_80 : decode cX10_of 80 = .ok (.iconst 1, 1) := by decide +kernel
theorem dX10_of_81 : decode cX10_of 81 = .ok (.goto 74, 3) := by decide +kernel
theorem dX10_of_84 : decode cX10_of 84 = .ok (.iconst 0, 1) := by decide +kernel
theorem dX10_of_85 : decode cX10_of 85 = .ok (.goto 70, 3) := by decide +kernel
theorem dX10_of_88 : decode cX10_of 88 = .ok (.iload_n 2, 1) := by decide +kernel
theorem dX10_of_89 : decode cX10_of 89 = .ok (.iconst 1, 1) := by decide +kernel
theorem dX10_of_90 : decode cX10_of 90 = .ok (.if_icmp .ne 7, 3) := by decide +kernel
theorem dX10_of_93 : decode cX10_of 93 = .ok (.iload_n 3, 1) := by decide +kernel
theorem dX10_of_94 : decode cX10_of 94 = .ok (.goto 61, 3) := by decide +kernel
theorem dX10_of_97 : decode cX10_of 97 = .ok (.iload_n 2, 1) := by decide +kernel
theorem dX10_of_98 : decode cX10_of 98 = .ok (.iconst 2, 1) := by decide +kernel
theorem dX10_of_99 : decode cX10_of 99 = .ok (.if_icmp .ne 35, 3) := by decide +kernel
theorem dX10_of_102 : decode cX10_of 102 = .ok (.aload_n 0, 1) := by decide +kernel
theorem dX10_of_103 : decode cX10_of 103 = .ok (.aload_n 0, 1) := by decide +kernel
theorem dX10_of_104 : decode cX10_of 104 = .ok (.getfield 76, 3) := by decide +kernel
theorem dX10_of_107 : decode cX10_of 107 = .ok (.aload_n 0, 1) := by decide +kernel
theorem dX10_of_108 : decode cX10_of 108 = .ok (.getfield 107, 3) := by decide +kernel
theorem dX10_of_111 : decode cX10_of 111 = .ok (.aload_n 0, 1) := by decide +kernel
theorem dX10_of_112 : decode cX10_of 112 = .ok (.getfield 7, 3) := by decide +kernel
theorem dX10_of_115 : decode cX10_of 115 = .ok (.iconst (-1), 1) := by decide +kernel
theorem dX10_of_116 : decode cX10_of 116 = .ok (.invokevirtual 110, 3) := by decide +kernel
theorem dX10_of_119 : decode cX10_of 119 = .ok (.iload_n 1, 1) := by decide +kernel
theorem dX10_of_120 : decode cX10_of 120 = .ok (.invokestatic 80, 3) := by decide +kernel
theorem dX10_of_123 : decode cX10_of 123 = .ok (.ifCond .eq 7, 3) := by decide +kernel
theorem dX10_of_126 : decode cX10_of 126 = .ok (.iconst 1, 1) := by decide +kernel
theorem dX10_of_127 : decode cX10_of 127 = .ok (.goto 28, 3) := by decide +kernel
theorem dX10_of_130 : decode cX10_of 130 = .ok (.iconst 0, 1) := by decide +kernel
theorem dX10_of_131 : decode cX10_of 131 = .ok (.goto 24, 3) := by decide +kernel
theorem dX10_of_134 : decode cX10_of 134 = .ok (.aload_n 0, 1) := by decide +kernel
theorem dX10_of_135 : decode cX10_of 135 = .ok (.getfield 97, 3) := by decide +kernel
theorem dX10_of_138 : decode cX10_of 138 = .ok (.iload_n 1, 1) := by decide +kernel
theorem dX10_of_139 : decode cX10_of 139 = .ok (.invokestatic 80, 3) := by decide +kernel
theorem dX10_of_142 : decode cX10_of 142 = .ok (.ifCond .eq 12, 3) := by decide +kernel
theorem dX10_of_145 : decode cX10_of 145 = .ok (.aload_n 0, 1) := by decide +kernel
theorem dX10_of_146 : decode cX10_of 146 = .ok (.getfield 25, 3) := by decide +kernel
theorem dX10_of_149 : decode cX10_of 149 = .ok (.iload_n 1, 1) := by decide +kernel
theorem dX10_of_150 : decode cX10_of 150 = .ok (.iaload, 1) := by decide +kernel
theorem dX10_of_151 : decode cX10_of 151 = .ok (.goto 4, 3) := by decide +kernel
theorem dX10_of_154 : decode cX10_of 154 = .ok (.iconst 0, 1) := by decide +kernel
theorem dX10_of_155 : decode cX10_of 155 = .ok (.ireturn, 1) := by decide +kernel
set_option maxRecDepth 20000 in
theorem ggX10_frost_X10_in : GoodIn wsX10_frost wsX10_in := goodIn_r _ [6] (by decide +kernel) (by decide +kernel)
set_option maxRecDepth 20000 in
theorem gX10_frost_X10_in : GoodIn wsX10_frost (va_wsS RX10 61 yX10_in wsX10_in) := goodIn_app (goodIn_of _ (by decide +kernel)) ggX10_frost_X10_in
theorem dX10_frost_0 : decode cX10_frost 0 = .ok (.iload_n 1, 1) := by decide +kernel
theorem dX10_frost_1 : decode cX10_frost 1 = .ok (.i2l, 1) := by decide +kernel
theorem dX10_frost_2 : decode cX10_frost 2 = .ok (.lconst 0, 1) := by decide +kernel
theorem dX10_frost_3 : decode cX10_frost 3 = .ok (.ldc2_w 114, 3) := by decide +kernel
theorem dX10_frost_6 : decode cX10_frost 6 = .ok (.invokestatic 61, 3) := by decide +kernel
theorem dX10_frost_9 : decode cX10_frost 9 = .ok (.ifCond .ne 5, 3) := by decide +kernel
theorem dX10_frost_12 : decode cX10_frost 12 = .ok (.iconst (-1), 1) := by decide +kernel
theorem dX10_frost_13 : decode cX10_frost 13 = .ok (.ireturn, 1) := by decide +kernel
theorem dX10_frost_14 : decode cX10_frost 14 = .ok (.aload_n 0, 1) := by decide +kernel
theorem dX10_frost_15 : decode cX10_frost 15 = .ok (.getfield 107, 3) := by decide +kernel
theorem dX10_frost_18 : decode cX10_frost 18 = .ok (.istore_n 2, 1) := by decide +kernel
theorem dX10_frost_19 : decode cX10_frost 19 = .ok (.aload_n 0, 1) := by decide +kernel
theorem dX10_frost_20 : decode cX10_frost 20 = .ok (.iload_n 1, 1) := by decide +kernel
theorem dX10_frost_21 : decode cX10_frost 21 = .ok (.putfield 107, 3) := by decide +kernel
theorem dX10_frost_24 : decode cX10_frost 24 = .ok (.iload_n 2, 1) := by decide +kernel
theorem dX10_frost_25 : decode cX10_frost 25 = .ok (.ireturn, 1) := by decide +kernel
set_option maxRecDepth 20000 in
theorem ggX10_count_X10_has : GoodIn wsX10_count wsX10_has := goodIn_r _ [10] (by decide +kernel) (by decide +kernel)
set_option maxRecDepth 20000 in
theorem gX10_count_X10_has : GoodIn wsX10_count (va_wsS RX10 80 yX10_has wsX10_has) := goodIn_app (goodIn_of _ (by decide +kernel)) ggX10_count_X10_has
theorem dX10_count_0 : decode cX10_count 0 = .ok (.iconst 0, 1) := by decide +kernel
theorem dX10_count_1 : decode cX10_count 1 = .ok (.istore_n 2, 1) := by decide +kernel
theorem dX10_count_2 : decode cX10_count 2 = .ok (.iconst 0, 1) := by decide +kernel
theorem dX10_count_3 : decode cX10_count 3 = .ok (.istore_n 3, 1) := by decide +kernel
theorem dX10_count_4 : decode cX10_count 4 = .ok (.iconst 0, 1) := by decide +kernel
theorem dX10_count_5 : decode cX10_count 5 = .ok (.istore 4, 2) := by decide +kernel
theorem dX10_count_7 : decode cX10_count 7 = .ok (.iload 4, 2) := by decide +kernel
theorem dX10_count_9 : decode cX10_count 9 = .ok (.bipush 36, 2) := by decide +kernel
theorem dX10_count_11 : decode cX10_count 11 = .ok (.if_icmp .ge 29, 3) := by decide +kernel
theorem dX10_count_14 : decode cX10_count 14 = .ok (.iload_n 2, 1) := by decide +kernel
theorem dX10_count_15 : decode cX10_count 15 = .ok (.aload_n 0, 1) := by decide +kernel
theorem dX10_count_16 : decode cX10_count 16 = .ok (.getfield 76, 3) := by decide +kernel
theorem dX10_count_19 : decode cX10_count 19 = .ok (.iload 4, 2) := by decide +kernel
theorem dX10_count_21 : decode cX10_count 21 = .ok (.invokestatic 80, 3) := by decide +kernel
theorem dX10_count_24 : decode cX10_count 24 = .ok (.ifCond .eq 7, 3) := by decide +kernel
theorem dX10_count_27 : decode cX10_count 27 = .ok (.iconst 1, 1) := by decide +kernel
theorem dX10_count_28 : decode cX10_count 28 = .ok (.goto 4, 3) := by decide +kernel
theorem dX10_count_31 : decode cX10_count 31 = .ok (.iconst 0, 1) := by decide +kernel
theorem dX10_count_32 : decode cX10_count 32 = .ok (.iadd, 1) := by decide +kernel
theorem dX10_count_33 : decode cX10_count 33 = .ok (.istore_n 2, 1) := by decide +kernel
theorem dX10_count_34 : decode cX10_count 34 = .ok (.iinc 4 1, 3) := by decide +kernel
theorem dX10_count_37 : decode cX10_count 37 = .ok (.goto (-30), 3) := by decide +kernel
theorem dX10_count_40 : decode cX10_count 40 = .ok (.iconst 0, 1) := by decide +kernel
theorem dX10_count_41 : decode cX10_count 41 = .ok (.istore 4, 2) := by decide +kernel
theorem dX10_count_43 : decode cX10_count 43 = .ok (.iload 4, 2) := by decide +kernel
theorem dX10_count_45 : decode cX10_count 45 = .ok (.aload_n 0, 1) := by decide +kernel
theorem dX10_count_46 : decode cX10_count 46 = .ok (.getfield 69, 3) := by decide +kernel
theorem dX10_count_49 : decode cX10_count 49 = .ok (.if_icmp .ge 30, 3) := by decide +kernel
theorem dX10_count_52 : decode cX10_count 52 = .ok (.iload_n 3, 1) := by decide +kernel
theorem dX10_count_53 : decode cX10_count 53 = .ok (.aload_n 0, 1) := by decide +kernel
theorem dX10_count_54 : decode cX10_count 54 = .ok (.getfield 22, 3) := by decide +kernel
theorem dX10_count_57 : decode cX10_count 57 = .ok (.iload 4, 2) := by decide +kernel
theorem dX10_count_59 : decode cX10_count 59 = .ok (.iaload, 1) := by decide +kernel
theorem dX10_count_60 : decode cX10_count 60 = .ok (.ifCond .le 10, 3) := by decide +kernel
theorem dX10_count_63 : decode cX10_count 63 = .ok (.iconst 1, 1) := by decide +kernel
theorem dX10_count_64 : decode cX10_count 64 = .ok (.iload 4, 2) := by decide +kernel
theorem dX10_count_66 : decode cX10_count 66 = .ok (.ishl, 1) := by decide +kernel
theorem dX10_count_67 : decode cX10_count 67 = .ok (.goto 4, 3) := by decide +kernel
theorem dX10_count_70 : decode cX10_count 70 = .ok (.iconst 0, 1) := by decide +kernel
theorem dX10_count_71 : decode cX10_count 71 = .ok (.ior, 1) := by decide +kernel
theorem dX10_count_72 : decode cX10_count 72 = .ok (.istore_n 3, 1) := by decide +kernel
theorem dX10_count_73 : decode cX10_count 73 = .ok (.iinc 4 1, 3) := by decide +kernel
theorem dX10_count_76 : decode cX10_count 76 = .ok (.goto (-33), 3) := by decide +kernel
theorem dX10_count_79 : decode cX10_count 79 = .ok (.iload_n 1, 1) := by decide +kernel
theorem dX10_count_80 : decode cX10_count 80 = .ok (.tableswitch 64 0 5 #[40, 45, 50, 52, 57, 62], 40) := by decide +kernel
theorem dX10_count_120 : decode cX10_count 120 = .ok (.aload_n 0, 1) := by decide +kernel
theorem dX10_count_121 : decode cX10_count 121 = .ok (.getfield 65, 3) := by decide +kernel
theorem dX10_count_124 : decode cX10_count 124 = .ok (.ireturn, 1) := by decide +kernel
theorem dX10_count_125 : decode cX10_count 125 = .ok (.aload_n 0, 1) := by decide +kernel
theorem dX10_count_126 : decode cX10_count 126 = .ok (.getfield 69, 3) := by decide +kernel
theorem dX10_count_129 : decode cX10_count 129 = .ok (.ireturn, 1) := by decide +kernel
theorem dX10_count_130 : decode cX10_count 130 = .ok (.iload_n 2, 1) := by decide +kernel
theorem dX10_count_131 : decode cX10_count 131 = .ok (.ireturn, 1) := by decide +kernel
theorem dX10_count_132 : decode cX10_count 132 = .ok (.aload_n 0, 1) := by decide +kernel
theorem dX10_count_133 : decode cX10_count 133 = .ok (.getfield 116, 3) := by decide +kernel
theorem dX10_count_136 : decode cX10_count 136 = .ok (.ireturn, 1) := by decide +kernel
theorem dX10_count_137 : decode cX10_count 137 = .ok (.aload_n 0, 1) := by decide +kernel
theorem dX10_count_138 : decode cX10_count 138 = .ok (.getfield 107, 3) := by decide +kernel
theorem dX10_count_141 : decode cX10_count 141 = .ok (.ireturn, 1) := by decide +kernel
theorem dX10_count_142 : decode cX10_count 142 = .ok (.iload_n 3, 1) := by decide +kernel
theorem dX10_count_143 : decode cX10_count 143 = .ok (.ireturn, 1) := by decide +kernel
theorem dX10_count_144 : decode cX10_count 144 = .ok (.iconst (-1), 1) := by decide +kernel
theorem dX10_count_145 : decode cX10_count 145 = .ok (.ireturn, 1) := by decide +kernel
