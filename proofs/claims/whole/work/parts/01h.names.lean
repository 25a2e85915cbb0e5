set_option maxRecDepth 20000 in
theorem gX10_way_X10_steps : GoodIn wsX10_way (va_wsS RX10 170 yX10_steps wsX10_steps) := goodIn_app (goodIn_of _ (by decide +kernel)) ggX10_way_X10_steps
theorem dX10_way_0 : decode cX10_way 0 = .ok (.iload_n 1, 1) := by decide +kernel
theorem dX10_way_1 : decode cX10_way 1 = .ok (.i2l, 1) := by decide +kernel
theorem dX10_way_2 : decode cX10_way 2 = .ok (.invokestatic 72, 3) := by decide +kernel
theorem dX10_way_5 : decode cX10_way 5 = .ok (.ifCond .eq 23, 3) := by decide +kernel
theorem dX10_way_8 : decode cX10_way 8 = .ok (.iload_n 2, 1) := by decide +kernel
theorem dX10_way_9 : decode cX10_way 9 = .ok (.i2l, 1) := by decide +kernel
theorem dX10_way_10 : decode cX10_way 10 = .ok (.invokestatic 72, 3) := by decide +kernel
theorem dX10_way_13 : decode cX10_way 13 = .ok (.ifCond .eq 15, 3) := by decide +kernel
theorem dX10_way_16 : decode cX10_way 16 = .ok (.aload_n 0, 1) := by decide +kernel
theorem dX10_way_17 : decode cX10_way 17 = .ok (.invokevirtual 166, 3) := by decide +kernel
theorem dX10_way_20 : decode cX10_way 20 = .ok (.iload_n 1, 1) := by decide +kernel
theorem dX10_way_21 : decode cX10_way 21 = .ok (.iload_n 2, 1) := by decide +kernel
theorem dX10_way_22 : decode cX10_way 22 = .ok (.invokestatic 170, 3) := by decide +kernel
theorem dX10_way_25 : decode cX10_way 25 = .ok (.goto 4, 3) := by decide +kernel
theorem dX10_way_28 : decode cX10_way 28 = .ok (.iconst (-1), 1) := by decide +kernel
theorem dX10_way_29 : decode cX10_way 29 = .ok (.ireturn, 1) := by decide +kernel
set_option maxRecDepth 20000 in
theorem ggX10_cost_X10_has : GoodIn wsX10_cost wsX10_has := goodIn_r _ [6] (by decide +kernel) (by decide +kernel)
set_option maxRecDepth 20000 in
theorem gX10_cost_X10_has : GoodIn wsX10_cost (va_wsS RX10 80 yX10_has wsX10_has) := goodIn_app (goodIn_of _ (by decide +kernel)) ggX10_cost_X10_has
theorem dX10_cost_0 : decode cX10_cost 0 = .ok (.aload_n 0, 1) := by decide +kernel
theorem dX10_cost_1 : decode cX10_cost 1 = .ok (.getfield 107, 3) := by decide +kernel
theorem dX10_cost_4 : decode cX10_cost 4 = .ok (.ifCond .gt 14, 3) := by decide +kernel
theorem dX10_cost_7 : decode cX10_cost 7 = .ok (.aload_n 0, 1) := by decide +kernel
theorem dX10_cost_8 : decode cX10_cost 8 = .ok (.getfield 76, 3) := by decide +kernel
theorem dX10_cost_11 : decode cX10_cost 11 = .ok (.iload_n 1, 1) := by decide +kernel
theorem dX10_cost_12 : decode cX10_cost 12 = .ok (.invokestatic 80, 3) := by decide +kernel
theorem dX10_cost_15 : decode cX10_cost 15 = .ok (.ifCond .eq 7, 3) := by decide +kernel
theorem dX10_cost_18 : decode cX10_cost 18 = .ok (.iconst 1, 1) := by decide +kernel
theorem dX10_cost_19 : decode cX10_cost 19 = .ok (.goto 4, 3) := by decide +kernel
theorem dX10_cost_22 : decode cX10_cost 22 = .ok (.iconst 2, 1) := by decide +kernel
theorem dX10_cost_23 : decode cX10_cost 23 = .ok (.ireturn, 1) := by decide +kernel
set_option maxRecDepth 20000 in
theorem ggX10_beside_X10_in : GoodIn wsX10_beside wsX10_in := goodIn_r _ [5] (by decide +kernel) (by decide +kernel)
set_option maxRecDepth 20000 in
theorem gX10_beside_X10_in : GoodIn wsX10_beside (va_wsS RX10 61 yX10_in wsX10_in) := goodIn_app (goodIn_of _ (by decide +kernel)) ggX10_beside_X10_in
theorem dX10_beside_0 : decode cX10_beside 0 = .ok (.iload_n 0, 1) := by decide +kernel
theorem dX10_beside_1 : decode cX10_beside 1 = .ok (.bipush 6, 2) := by decide +kernel
theorem dX10_beside_3 : decode cX10_beside 3 = .ok (.idiv, 1) := by decide +kernel
theorem dX10_beside_4 : decode cX10_beside 4 = .ok (.iload_n 1, 1) := by decide +kernel
theorem dX10_beside_5 : decode cX10_beside 5 = .ok (.ifCond .ne 7, 3) := by decide +kernel
theorem dX10_beside_8 : decode cX10_beside 8 = .ok (.iconst (-1), 1) := by decide +kernel
theorem dX10_beside_9 : decode cX10_beside 9 = .ok (.goto 13, 3) := by decide +kernel
theorem dX10_beside_12 : decode cX10_beside 12 = .ok (.iload_n 1, 1) := by decide +kernel
theorem dX10_beside_13 : decode cX10_beside 13 = .ok (.iconst 3, 1) := by decide +kernel
theorem dX10_beside_14 : decode cX10_beside 14 = .ok (.if_icmp .ne 7, 3) := by decide +kernel
theorem dX10_beside_17 : decode cX10_beside 17 = .ok (.iconst 1, 1) := by decide +kernel
theorem dX10_beside_18 : decode cX10_beside 18 = .ok (.goto 4, 3) := by decide +kernel
theorem dX10_beside_21 : decode cX10_beside 21 = .ok (.iconst 0, 1) := by decide +kernel
theorem dX10_beside_22 : decode cX10_beside 22 = .ok (.iadd, 1) := by decide +kernel
theorem dX10_beside_23 : decode cX10_beside 23 = .ok (.istore_n 2, 1) := by decide +kernel
theorem dX10_beside_24 : decode cX10_beside 24 = .ok (.iload_n 0, 1) := by decide +kernel
theorem dX10_beside_25 : decode cX10_beside 25 = .ok (.bipush 6, 2) := by decide +kernel
theorem dX10_beside_27 : decode cX10_beside 27 = .ok (.irem, 1) := by decide +kernel
theorem dX10_beside_28 : decode cX10_beside 28 = .ok (.iload_n 1, 1) := by decide +kernel
theorem dX10_beside_29 : decode cX10_beside 29 = .ok (.iconst 1, 1) := by decide +kernel
theorem dX10_beside_30 : decode cX10_beside 30 = .ok (.if_icmp .ne 7, 3) := by decide +kernel
theorem dX10_beside_33 : decode cX10_beside 33 = .ok (.iconst (-1), 1) := by decide +kernel
theorem dX10_beside_34 : decode cX10_beside 34 = .ok (.goto 13, 3) := by decide +kernel
theorem dX10_beside_37 : decode cX10_beside 37 = .ok (.iload_n 1, 1) := by decide +kernel
theorem dX10_beside_38 : decode cX10_beside 38 = .ok (.iconst 2, 1) := by decide +kernel
theorem dX10_beside_39 : decode cX10_beside 39 = .ok (.if_icmp .ne 7, 3) := by decide +kernel
theorem dX10_beside_42 : decode cX10_beside 42 = .ok (.iconst 1, 1) := by decide +kernel
theorem dX10_beside_43 : decode cX10_beside 43 = .ok (.goto 4, 3) := by decide +kernel
theorem dX10_beside_46 : decode cX10_beside 46 = .ok (.iconst 0, 1) := by decide +kernel
theorem dX10_beside_47 : decode cX10_beside 47 = .ok (.iadd, 1) := by decide +kernel
theorem dX10_beside_48 : decode cX10_beside 48 = .ok (.istore_n 3, 1) := by decide +kernel
theorem dX10_beside_49 : decode cX10_beside 49 = .ok (.iload_n 2, 1) := by decide +kernel
theorem dX10_beside_50 : decode cX10_beside 50 = .ok (.i2l, 1) := by decide +kernel
theorem dX10_beside_51 : decode cX10_beside 51 = .ok (.lconst 0, 1) := by decide +kernel
theorem dX10_beside_52 : decode cX10_beside 52 = .ok (.ldc2_w 174, 3) := by decide +kernel
theorem dX10_beside_55 : decode cX10_beside 55 = .ok (.invokestatic 61, 3) := by decide +kernel
theorem dX10_beside_58 : decode cX10_beside 58 = .ok (.ifCond .eq 24, 3) := by decide +kernel
theorem dX10_beside_61 : decode cX10_beside 61 = .ok (.iload_n 3, 1) := by decide +kernel
theorem dX10_beside_62 : decode cX10_beside 62 = .ok (.i2l, 1) := by decide +kernel
theorem dX10_beside_63 : decode cX10_beside 63 = .ok (.lconst 0, 1) := by decide +kernel
theorem dX10_beside_64 : decode cX10_beside 64 = .ok (.ldc2_w 174, 3) := by decide +kernel
theorem dX10_beside_67 : decode cX10_beside 67 = .ok (.invokestatic 61, 3) := by decide +kernel
theorem dX10_beside_70 : decode cX10_beside 70 = .ok (.ifCond .eq 12, 3) := by decide +kernel
theorem dX10_beside_73 : decode cX10_beside 73 = .ok (.bipush 6, 2) := by decide +kernel
theorem dX10_beside_75 : decode cX10_beside 75 = .ok (.iload_n 2, 1) := by decide +kernel
theorem dX10_beside_76 : decode cX10_beside 76 = .ok (.imul, 1) := by decide +kernel
theorem dX10_beside_77 : decode cX10_beside 77 = .ok (.iload_n 3, 1) := by decide +kernel
theorem dX10_beside_78 : decode cX10_beside 78 = .ok (.iadd, 1) := by decide +kernel
theorem dX10_beside_79 : decode cX10_beside 79 = .ok (.goto 4, 3) := by decide +kernel
theorem dX10_beside_82 : decode cX10_beside 82 = .ok (.iconst (-1), 1) := by decide +kernel
theorem dX10_beside_83 : decode cX10_beside 83 = .ok (.ireturn, 1) := by decide +kernel
set_option maxRecDepth 20000 in
theorem ggX10_finds_X10_has : GoodIn wsX10_finds wsX10_has := goodIn_r _ [5] (by decide +kernel) (by decide +kernel)
set_option maxRecDepth 20000 in
theorem gX10_finds_X10_has : GoodIn wsX10_finds (va_wsS RX10 80 yX10_has wsX10_has) := goodIn_app (goodIn_of _ (by decide +kernel)) ggX10_finds_X10_has
set_option maxRecDepth 20000 in
theorem ggX10_finds_X10_beside : GoodIn wsX10_finds wsX10_beside := goodIn_r _ [8, 9, 10, 11, 4, 12] (by decide +kernel) (by decide +kernel)
set_option maxRecDepth 20000 in
theorem gX10_finds_X10_beside : GoodIn wsX10_finds (va_wsS RX10 176 yX10_beside wsX10_beside) := goodIn_app (goodIn_of _ (by decide +kernel)) ggX10_finds_X10_beside
set_option maxRecDepth 20000 in
theorem ggX10_finds_X10_cost : GoodIn wsX10_finds wsX10_cost := goodIn_r _ [16, 17, 18, 2, 3, 4, 5, 19, 20, 21, 22, 23, 24, 25, 26, 27, 28, 29, 30, 31, 32, 33, 34, 35, 36, 37, 38, 39, 40, 41, 42, 43, 44, 45, 46, 47, 48] (by decide +kernel) (by decide +kernel)
set_option maxRecDepth 20000 in
theorem gX10_finds_X10_cost : GoodIn wsX10_finds (wsV RX10 179 RX10 yX10_cost wsX10_cost) := goodIn_app (goodIn_of _ (by decide +kernel)) ggX10_finds_X10_cost
theorem dX10_finds_0 : decode cX10_finds 0 = .ok (.iconst 0, 1) := by decide +kernel
theorem dX10_finds_1 : decode cX10_finds 1 = .ok (.istore 4, 2) := by decide +kernel
theorem dX10_finds_3 : decode cX10_finds 3 = .ok (.iload 4, 2) := by decide +kernel
theorem dX10_finds_5 : decode cX10_finds 5 = .ok (.bipush 36, 2) := by decide +kernel
theorem dX10_finds_7 : decode cX10_finds 7 = .ok (.if_icmp .ge 36, 3) := by decide +kernel
theorem dX10_finds_10 : decode cX10_finds 10 = .ok (.aload_n 0, 1) := by decide +kernel
theorem dX10_finds_11 : decode cX10_finds 11 = .ok (.getfield 37, 3) := by decide +kernel
theorem dX10_finds_14 : decode cX10_finds 14 = .ok (.iload 4, 2) := by decide +kernel
theorem dX10_finds_16 : decode cX10_finds 16 = .ok (.iload 4, 2) := by decide +kernel
theorem dX10_finds_18 : decode cX10_finds 18 = .ok (.iload_n 1, 1) := by decide +kernel
theorem dX10_finds_19 : decode cX10_finds 19 = .ok (.if_icmp .ne 15, 3) := by decide +kernel
theorem dX10_finds_22 : decode cX10_finds 22 = .ok (.lload_n 2, 1) := by decide +kernel
theorem dX10_finds_23 : decode cX10_finds 23 = .ok (.iload_n 1, 1) := by decide +kernel
theorem dX10_finds_24 : decode cX10_finds 24 = .ok (.invokestatic 80, 3) := by decide +kernel
theorem dX10_finds_27 : decode cX10_finds 27 = .ok (.ifCond .eq 7, 3) := by decide +kernel
theorem dX10_finds_30 : decode cX10_finds 30 = .ok (.iconst 0, 1) := by decide +kernel
theorem dX10_finds_31 : decode cX10_finds 31 = .ok (.goto 5, 3) := by decide +kernel
theorem dX10_finds_34 : decode cX10_finds 34 = .ok (.bipush (-4), 2) := by decide +kernel
theorem dX10_finds_36 : decode cX10_finds 36 = .ok (.iastore, 1) := by decide +kernel
theorem dX10_finds_37 : decode cX10_finds 37 = .ok (.iinc 4 1, 3) := by decide +kernel
theorem dX10_finds_40 : decode cX10_finds 40 = .ok (.goto (-37), 3) := by decide +kernel
theorem dX10_finds_43 : decode cX10_finds 43 = .ok (.iconst 1, 1) := by decide +kernel
theorem dX10_finds_44 : decode cX10_finds 44 = .ok (.istore 4, 2) := by decide +kernel
theorem dX10_finds_46 : decode cX10_finds 46 = .ok (.iload 4, 2) := by decide +kernel
theorem dX10_finds_48 : decode cX10_finds 48 = .ok (.ifCond .eq 171, 3) := by decide +kernel
theorem dX10_finds_51 : decode cX10_finds 51 = .ok (.iconst 0, 1) := by decide +kernel
theorem dX10_finds_52 : decode cX10_finds 52 = .ok (.istore 4, 2) := by decide +kernel
theorem dX10_finds_54 : decode cX10_finds 54 = .ok (.iconst 0, 1) := by decide +kernel
theorem dX10_finds_55 : decode cX10_finds 55 = .ok (.istore 5, 2) := by decide +kernel
theorem dX10_finds_57 : decode cX10_finds 57 = .ok (.iload 5, 2) := by decide +kernel
theorem dX10_finds_59 : decode cX10_finds 59 = .ok (.bipush 36, 2) := by decide +kernel
theorem dX10_finds_61 : decode cX10_finds 61 = .ok (.if_icmp .ge 155, 3) := by decide +kernel
theorem dX10_finds_64 : decode cX10_finds 64 = .ok (.iconst 0, 1) := by decide +kernel
theorem dX10_finds_65 : decode cX10_finds 65 = .ok (.istore 6, 2) := by decide +kernel
theorem dX10_finds_67 : decode cX10_finds 67 = .ok (.iload 6, 2) := by decide +kernel
theorem dX10_finds_69 : decode cX10_finds 69 = .ok (.iconst 4, 1) := by decide +kernel
theorem dX10_finds_70 : decode cX10_finds 70 = .ok (.if_icmp .ge 140, 3) := by decide +kernel
theorem dX10_finds_73 : decode cX10_finds 73 = .ok (.lload_n 2, 1) := by decide +kernel
theorem dX10_finds_74 : decode cX10_finds 74 = .ok (.iload 5, 2) := by decide +kernel
theorem dX10_finds_76 : decode cX10_finds 76 = .ok (.invokestatic 80, 3) := by decide +kernel
theorem dX10_finds_79 : decode cX10_finds 79 = .ok (.ifCond .eq 131, 3) := by decide +kernel
theorem dX10_finds_82 : decode cX10_finds 82 = .ok (.iload 5, 2) := by decide +kernel
theorem dX10_finds_84 : decode cX10_finds 84 = .ok (.iload 6, 2) := by decide +kernel
theorem dX10_finds_86 : decode cX10_finds 86 = .ok (.invokestatic 176, 3) := by decide +kernel
theorem dX10_finds_89 : decode cX10_finds 89 = .ok (.istore 7, 2) := by decide +kernel
theorem dX10_finds_91 : decode cX10_finds 91 = .ok (.iload 7, 2) := by decide +kernel
theorem dX10_finds_93 : decode cX10_finds 93 = .ok (.ifCond .lt 55, 3) := by decide +kernel
theorem dX10_finds_96 : decode cX10_finds 96 = .ok (.aload_n 0, 1) := by decide +kernel
theorem dX10_finds_97 : decode cX10_finds 97 = .ok (.getfield 37, 3) := by decide +kernel
theorem dX10_finds_100 : decode cX10_finds 100 = .ok (.iload 7, 2) := by decide +kernel
theorem dX10_finds_102 : decode cX10_finds 102 = .ok (.iaload, 1) := by decide +kernel
theorem dX10_finds_103 : decode cX10_finds 103 = .ok (.bipush (-4), 2) := by decide +kernel
theorem dX10_finds_105 : decode cX10_finds 105 = .ok (.if_icmp .eq 43, 3) := by decide +kernel
theorem dX10_finds_108 : decode cX10_finds 108 = .ok (.aload_n 0, 1) := by decide +kernel
theorem dX10_finds_109 : decode cX10_finds 109 = .ok (.getfield 37, 3) := by decide +kernel
theorem dX10_finds_112 : decode cX10_finds 112 = .ok (.iload 5, 2) := by decide +kernel
theorem dX10_finds_114 : decode cX10_finds 114 = .ok (.iaload, 1) := by decide +kernel
theorem dX10_finds_115 : decode cX10_finds 115 = .ok (.bipush (-4), 2) := by decide +kernel
theorem dX10_finds_117 : decode cX10_finds 117 = .ok (.if_icmp .eq 27, 3) := by decide +kernel
theorem dX10_finds_120 : decode cX10_finds 120 = .ok (.aload_n 0, 1) := by decide +kernel
theorem dX10_finds_121 : decode cX10_finds 121 = .ok (.getfield 37, 3) := by decide +kernel
theorem dX10_finds_124 : decode cX10_finds 124 = .ok (.iload 7, 2) := by decide +kernel
theorem dX10_finds_126 : decode cX10_finds 126 = .ok (.iaload, 1) := by decide +kernel
theorem dX10_finds_127 : decode cX10_finds 127 = .ok (.aload_n 0, 1) := by decide +kernel
theorem dX10_finds_128 : decode cX10_finds 128 = .ok (.iload 7, 2) := by decide +kernel
theorem dX10_finds_130 : decode cX10_finds 130 = .ok (.invokevirtual 179, 3) := by decide +kernel
theorem dX10_finds_133 : decode cX10_finds 133 = .ok (.iadd, 1) := by decide +kernel
theorem dX10_finds_134 : decode cX10_finds 134 = .ok (.aload_n 0, 1) := by decide +kernel
theorem dX10_finds_135 : decode cX10_finds 135 = .ok (.getfield 37, 3) := by decide +kernel
theorem dX10_finds_138 : decode cX10_finds 138 = .ok (.iload 5, 2) := by decide +kernel
theorem dX10_finds_140 : decode cX10_finds 140 = .ok (.iaload, 1) := by decide +kernel
theorem dX10_finds_141 : decode cX10_finds 141 = .ok (.if_icmp .ge 7, 3) := by decide +kernel
theorem dX10_finds_144 : decode cX10_finds 144 = .ok (.iconst 1, 1) := by decide +kernel
theorem dX10_finds_145 : decode cX10_finds 145 = .ok (.goto 4, 3) := by decide +kernel
theorem dX10_finds_148 : decode cX10_finds 148 = .ok (.iconst 0, 1) := by decide +kernel
theorem dX10_finds_149 : decode cX10_finds 149 = .ok (.istore 8, 2) := by decide +kernel
theorem dX10_finds_151 : decode cX10_finds 151 = .ok (.aload_n 0, 1) := by decide +kernel
theorem dX10_finds_152 : decode cX10_finds 152 = .ok (.getfield 37, 3) := by decide +kernel
theorem dX10_finds_155 : decode cX10_finds 155 = .ok (.iload 5, 2) := by decide +kernel
theorem dX10_finds_157 : decode cX10_finds 157 = .ok (.iload 8, 2) := by decide +kernel
theorem dX10_finds_159 : decode cX10_finds 159 = .ok (.ifCond .eq 20, 3) := by decide +kernel
theorem dX10_finds_162 : decode cX10_finds 162 = .ok (.aload_n 0, 1) := by decide +kernel
theorem dX10_finds_163 : decode cX10_finds 163 = .ok (.getfield 37, 3) := by decide +kernel
theorem dX10_finds_166 : decode cX10_finds 166 = .ok (.iload 7, 2) := by decide +kernel
theorem dX10_finds_168 : decode cX10_finds 168 = .ok (.iaload, 1) := by decide +kernel
theorem dX10_finds_169 : decode cX10_finds 169 = .ok (.aload_n 0, 1) := by decide +kernel
theorem dX10_finds_170 : decode cX10_finds 170 = .ok (.iload 7, 2) := by decide +kernel
theorem dX10_finds_172 : decode cX10_finds 172 = .ok (.invokevirtual 179, 3) := by decide +kernel
theorem dX10_finds_175 : decode cX10_finds 175 = .ok (.iadd, 1) := by decide +kernel
theorem dX10_finds_176 : decode cX10_finds 176 = .ok (.goto 10, 3) := by decide +kernel
theorem dX10_finds_179 : decode cX10_finds 179 = .ok (.aload_n 0, 1) := by decide +kernel
theorem dX10_finds_180 : decode cX10_finds 180 = .ok (.getfield 37, 3) := by decide +kernel
theorem dX10_finds_183 : decode cX10_finds 183 = .ok (.iload 5, 2) := by decide +kernel
theorem dX10_finds_185 : decode cX10_finds 185 = .ok (.iaload, 1) := by decide +kernel
theorem dX10_finds_186 : decode cX10_finds 186 = .ok (.iastore, 1) := by decide +kernel
theorem dX10_finds_187 : decode cX10_finds 187 = .ok (.iload 4, 2) := by decide +kernel
theorem dX10_finds_189 : decode cX10_finds 189 = .ok (.ifCond .ne 8, 3) := by decide +kernel
theorem dX10_finds_192 : decode cX10_finds 192 = .ok (.iload 8, 2) := by decide +kernel
theorem dX10_finds_194 : decode cX10_finds 194 = .ok (.ifCond .eq 7, 3) := by decide +kernel
theorem dX10_finds_197 : decode cX10_finds 197 = .ok (.iconst 1, 1) := by decide +kernel
theorem dX10_finds_198 : decode cX10_finds 198 = .ok (.goto 4, 3) := by decide +kernel
theorem dX10_finds_201 : decode cX10_finds 201 = .ok (.iconst 0, 1) := by decide +kernel
theorem dX10_finds_202 : decode cX10_finds 202 = .ok (.istore 4, 2) := by decide +kernel
theorem dX10_finds_204 : decode cX10_finds 204 = .ok (.iinc 6 1, 3) := by decide +kernel
theorem dX10_finds_207 : decode cX10_finds 207 = .ok (.goto (-140), 3) := by decide +kernel
theorem dX10_finds_210 : decode cX10_finds 210 = .ok (.iinc 5 1, 3) := by decide +kernel
theorem dX10_finds_213 : decode cX10_finds 213 = .ok (.goto (-156), 3) := by decide +kernel
theorem dX10_finds_216 : decode cX10_finds 216 = .ok (.goto (-170), 3) := by decide +kernel
theorem dX10_finds_219 : decode cX10_finds 219 = .ok (.return_, 1) := by decide +kernel
set_option maxRecDepth 20000 in
theorem ggX10_route_X10_isCell : GoodIn wsX10_route wsX10_isCell := goodIn_r _ [7, 8, 9, 10, 6, 11] (by decide +kernel) (by decide +kernel)
set_option maxRecDepth 20000 in
theorem gX10_route_X10_isCell : GoodIn wsX10_route (va_wsS RX10 72 yX10_isCell wsX10_isCell) := goodIn_app (goodIn_of _ (by decide +kernel)) ggX10_route_X10_isCell
set_option maxRecDepth 20000 in
theorem ggX10_route_X10_in : GoodIn wsX10_route wsX10_in := goodIn_r _ [11] (by decide +kernel) (by decide +kernel)
set_option maxRecDepth 20000 in
theorem gX10_route_X10_in : GoodIn wsX10_route (va_wsS RX10 61 yX10_in wsX10_in) := goodIn_app (goodIn_of _ (by decide +kernel)) ggX10_route_X10_in
set_option maxRecDepth 20000 in
theorem ggX10_route_X10_now : GoodIn wsX10_route wsX10_now := goodIn_r _ [15, 16, 17, 18, 19, 20, 21, 6, 22, 23, 24, 40, 41, 42, 43, 44, 45, 46, 47, 48, 49, 50, 51, 52, 53, 54, 55, 56, 57, 58, 59, 60, 61, 62, 63, 64, 65, 66, 67, 68, 69] (by decide +kernel) (by decide +kernel)
set_option maxRecDepth 20000 in
theorem gX10_route_X10_now : GoodIn wsX10_route (wsV RX10 166 RX10 yX10_now wsX10_now) := goodIn_app (goodIn_of _ (by decide +kernel)) ggX10_route_X10_now
set_option maxRecDepth 20000 in
theorem ggX10_route_X10_finds : GoodIn wsX10_route wsX10_finds := goodIn_r _ [28, 3, 29, 30, 6, 31, 32, 33, 34, 35, 9, 10, 11, 36, 37, 38, 39, 17, 16, 40, 41, 42, 43, 44, 45, 46, 47, 48, 49, 50, 51, 52, 53, 54, 55, 56, 57, 58, 59, 60, 61, 62, 63, 64, 65, 66, 67, 68, 69] (by decide +kernel) (by decide +kernel)
set_option maxRecDepth 20000 in
theorem gX10_route_X10_finds : GoodIn wsX10_route (wsV RX10 184 RX10 yX10_finds wsX10_finds) := goodIn_app (goodIn_of _ (by decide +kernel)) ggX10_route_X10_finds
set_option maxRecDepth 20000 in
theorem ggX10_route_X10_beside : GoodIn wsX10_route wsX10_beside := goodIn_r _ [34, 35, 9, 10, 6, 11] (by decide +kernel) (by decide +kernel)
set_option maxRecDepth 20000 in
theorem gX10_route_X10_beside : GoodIn wsX10_route (va_wsS RX10 176 yX10_beside wsX10_beside) := goodIn_app (goodIn_of _ (by decide +kernel)) ggX10_route_X10_beside
set_option maxRecDepth 20000 in
theorem ggX10_route_X10_cost : GoodIn wsX10_route wsX10_cost := goodIn_r _ [39, 17, 16, 29, 30, 6, 31, 40, 41, 42, 43, 44, 45, 46, 47, 48, 49, 50, 51, 52, 53, 54, 55, 56, 57, 58, 59, 60, 61, 62, 63, 64, 65, 66, 67, 68, 69] (by decide +kernel) (by decide +kernel)
set_option maxRecDepth 20000 in
theorem gX10_route_X10_cost : GoodIn wsX10_route (wsV RX10 179 RX10 yX10_cost wsX10_cost) := goodIn_app (goodIn_of _ (by decide +kernel)) ggX10_route_X10_cost
theorem dX10_route_0 : decode cX10_route 0 = .ok (.iload_n 1, 1) := by decide +kernel
theorem dX10_route_1 : decode cX10_route 1 = .ok (.i2l, 1) := by decide +kernel
theorem dX10_route_2 : decode cX10_route 2 = .ok (.invokestatic 72, 3) := by decide +kernel
theorem dX10_route_5 : decode cX10_route 5 = .ok (.ifCond .eq 25, 3) := by decide +kernel
theorem dX10_route_8 : decode cX10_route 8 = .ok (.iload_n 2, 1) := by decide +kernel
theorem dX10_route_9 : decode cX10_route 9 = .ok (.i2l, 1) := by decide +kernel
theorem dX10_route_10 : decode cX10_route 10 = .ok (.invokestatic 72, 3) := by decide +kernel
theorem dX10_route_13 : decode cX10_route 13 = .ok (.ifCond .eq 17, 3) := by decide +kernel
theorem dX10_route_16 : decode cX10_route 16 = .ok (.iload_n 3, 1) := by decide +kernel
theorem dX10_route_17 : decode cX10_route 17 = .ok (.i2l, 1) := by decide +kernel
theorem dX10_route_18 : decode cX10_route 18 = .ok (.ldc2_w 84, 3) := by decide +kernel
theorem dX10_route_21 : decode cX10_route 21 = .ok (.ldc2_w 182, 3) := by decide +kernel
theorem dX10_route_24 : decode cX10_route 24 = .ok (.invokestatic 61, 3) := by decide +kernel
theorem dX10_route_27 : decode cX10_route 27 = .ok (.ifCond .ne 5, 3) := by decide +kernel
theorem dX10_route_30 : decode cX10_route 30 = .ok (.iconst (-1), 1) := by decide +kernel
theorem dX10_route_31 : decode cX10_route 31 = .ok (.ireturn, 1) := by decide +kernel
theorem dX10_route_32 : decode cX10_route 32 = .ok (.aload_n 0, 1) := by decide +kernel
theorem dX10_route_33 : decode cX10_route 33 = .ok (.iload_n 2, 1) := by decide +kernel
theorem dX10_route_34 : decode cX10_route 34 = .ok (.aload_n 0, 1) := by decide +kernel
theorem dX10_route_35 : decode cX10_route 35 = .ok (.invokevirtual 166, 3) := by decide +kernel
theorem dX10_route_38 : decode cX10_route 38 = .ok (.invokevirtual 184, 3) := by decide +kernel
theorem dX10_route_41 : decode cX10_route 41 = .ok (.aload_n 0, 1) := by decide +kernel
theorem dX10_route_42 : decode cX10_route 42 = .ok (.getfield 37, 3) := by decide +kernel
theorem dX10_route_45 : decode cX10_route 45 = .ok (.iload_n 1, 1) := by decide +kernel
theorem dX10_route_46 : decode cX10_route 46 = .ok (.iaload, 1) := by decide +kernel
theorem dX10_route_47 : decode cX10_route 47 = .ok (.bipush (-4), 2) := by decide +kernel
theorem dX10_route_49 : decode cX10_route 49 = .ok (.if_icmp .eq 7, 3) := by decide +kernel
theorem dX10_route_52 : decode cX10_route 52 = .ok (.iload_n 3, 1) := by decide +kernel
theorem dX10_route_53 : decode cX10_route 53 = .ok (.ifCond .ge 10, 3) := by decide +kernel
theorem dX10_route_56 : decode cX10_route 56 = .ok (.aload_n 0, 1) := by decide +kernel
theorem dX10_route_57 : decode cX10_route 57 = .ok (.getfield 37, 3) := by decide +kernel
theorem dX10_route_60 : decode cX10_route 60 = .ok (.iload_n 1, 1) := by decide +kernel
theorem dX10_route_61 : decode cX10_route 61 = .ok (.iaload, 1) := by decide +kernel
theorem dX10_route_62 : decode cX10_route 62 = .ok (.ireturn, 1) := by decide +kernel
theorem dX10_route_63 : decode cX10_route 63 = .ok (.iload_n 1, 1) := by decide +kernel
theorem dX10_route_64 : decode cX10_route 64 = .ok (.istore 4, 2) := by decide +kernel
theorem dX10_route_66 : decode cX10_route 66 = .ok (.iconst 0, 1) := by decide +kernel
theorem dX10_route_67 : decode cX10_route 67 = .ok (.istore 5, 2) := by decide +kernel
theorem dX10_route_69 : decode cX10_route 69 = .ok (.iload 4, 2) := by decide +kernel
theorem dX10_route_71 : decode cX10_route 71 = .ok (.iload_n 2, 1) := by decide +kernel
theorem dX10_route_72 : decode cX10_route 72 = .ok (.if_icmp .eq 90, 3) := by decide +kernel
theorem dX10_route_75 : decode cX10_route 75 = .ok (.iconst 0, 1) := by decide +kernel
theorem dX10_route_76 : decode cX10_route 76 = .ok (.istore 6, 2) := by decide +kernel
theorem dX10_route_78 : decode cX10_route 78 = .ok (.iload 4, 2) := by decide +kernel
theorem dX10_route_80 : decode cX10_route 80 = .ok (.iload 6, 2) := by decide +kernel
theorem dX10_route_82 : decode cX10_route 82 = .ok (.invokestatic 176, 3) := by decide +kernel
theorem dX10_route_85 : decode cX10_route 85 = .ok (.istore 7, 2) := by decide +kernel
theorem dX10_route_87 : decode cX10_route 87 = .ok (.iload 7, 2) := by decide +kernel
theorem dX10_route_89 : decode cX10_route 89 = .ok (.ifCond .lt 39, 3) := by decide +kernel
theorem dX10_route_92 : decode cX10_route 92 = .ok (.aload_n 0, 1) := by decide +kernel
theorem dX10_route_93 : decode cX10_route 93 = .ok (.getfield 37, 3) := by decide +kernel
theorem dX10_route_96 : decode cX10_route 96 = .ok (.iload 7, 2) := by decide +kernel
theorem dX10_route_98 : decode cX10_route 98 = .ok (.iaload, 1) := by decide +kernel
theorem dX10_route_99 : decode cX10_route 99 = .ok (.bipush (-4), 2) := by decide +kernel
theorem dX10_route_101 : decode cX10_route 101 = .ok (.if_icmp .eq 27, 3) := by decide +kernel
theorem dX10_route_104 : decode cX10_route 104 = .ok (.aload_n 0, 1) := by decide +kernel
theorem dX10_route_105 : decode cX10_route 105 = .ok (.getfield 37, 3) := by decide +kernel
theorem dX10_route_108 : decode cX10_route 108 = .ok (.iload 7, 2) := by decide +kernel
theorem dX10_route_110 : decode cX10_route 110 = .ok (.iaload, 1) := by decide +kernel
theorem dX10_route_111 : decode cX10_route 111 = .ok (.aload_n 0, 1) := by decide +kernel
theorem dX10_route_112 : decode cX10_route 112 = .ok (.iload 7, 2) := by decide +kernel
theorem dX10_route_114 : decode cX10_route 114 = .ok (.invokevirtual 179, 3) := by decide +kernel
theorem dX10_route_117 : decode cX10_route 117 = .ok (.iadd, 1) := by decide +kernel
theorem dX10_route_118 : decode cX10_route 118 = .ok (.aload_n 0, 1) := by decide +kernel
theorem dX10_route_119 : decode cX10_route 119 = .ok (.getfield 37, 3) := by decide +kernel
theorem dX10_route_122 : decode cX10_route 122 = .ok (.iload 4, 2) := by decide +kernel
theorem dX10_route_124 : decode cX10_route 124 = .ok (.iaload, 1) := by decide +kernel
theorem dX10_route_125 : decode cX10_route 125 = .ok (.if_icmp .eq 18, 3) := by decide +kernel
theorem dX10_route_128 : decode cX10_route 128 = .ok (.iinc 6 1, 3) := by decide +kernel
theorem dX10_route_131 : decode cX10_route 131 = .ok (.iload 4, 2) := by decide +kernel
theorem dX10_route_133 : decode cX10_route 133 = .ok (.iload 6, 2) := by decide +kernel
theorem dX10_route_135 : decode cX10_route 135 = .ok (.invokestatic 176, 3) := by decide +kernel
theorem dX10_route_138 : decode cX10_route 138 = .ok (.istore 7, 2) := by decide +kernel
theorem dX10_route_140 : decode cX10_route 140 = .ok (.goto (-53), 3) := by decide +kernel
theorem dX10_route_143 : decode cX10_route 143 = .ok (.iload 7, 2) := by decide +kernel
theorem dX10_route_145 : decode cX10_route 145 = .ok (.istore 4, 2) := by decide +kernel
theorem dX10_route_147 : decode cX10_route 147 = .ok (.iload 5, 2) := by decide +kernel
theorem dX10_route_149 : decode cX10_route 149 = .ok (.iload_n 3, 1) := by decide +kernel
theorem dX10_route_150 : decode cX10_route 150 = .ok (.if_icmp .ne 6, 3) := by decide +kernel
theorem dX10_route_153 : decode cX10_route 153 = .ok (.iload 4, 2) := by decide +kernel
theorem dX10_route_155 : decode cX10_route 155 = .ok (.ireturn, 1) := by decide +kernel
theorem dX10_route_156 : decode cX10_route 156 = .ok (.iinc 5 1, 3) := by decide +kernel
theorem dX10_route_159 : decode cX10_route 159 = .ok (.goto (-90), 3) := by decide +kernel
theorem dX10_route_162 : decode cX10_route 162 = .ok (.bipush (-4), 2) := by decide +kernel
theorem dX10_route_164 : decode cX10_route 164 = .ok (.ireturn, 1) := by decide +kernel
set_option maxRecDepth 20000 in
theorem ggX10_parts_X10_now : GoodIn wsX10_parts wsX10_now := goodIn_r _ [6, 7, 8, 9, 10, 11, 12, 5, 13, 14, 15, 21, 22, 23, 24, 25, 26, 27, 28, 29, 30, 31, 32, 33, 34, 35, 36, 37, 38, 39, 40, 41, 42, 43, 44, 45, 46, 47, 48, 49, 50] (by decide +kernel) (by decide +kernel)
set_option maxRecDepth 20000 in
theorem gX10_parts_X10_now : GoodIn wsX10_parts (wsV RX10 166 RX10 yX10_now wsX10_now) := goodIn_app (goodIn_of _ (by decide +kernel)) ggX10_parts_X10_now
set_option maxRecDepth 20000 in
theorem ggX10_parts_X10_spreads : GoodIn wsX10_parts wsX10_spreads := goodIn_r _ [18, 19, 20, 15] (by decide +kernel) (by decide +kernel)
set_option maxRecDepth 20000 in
theorem gX10_parts_X10_spreads : GoodIn wsX10_parts (va_wsS RX10 162 yX10_spreads wsX10_spreads) := goodIn_app (goodIn_of _ (by decide +kernel)) ggX10_parts_X10_spreads
theorem dX10_parts_0 : decode cX10_parts 0 = .ok (.aload_n 0, 1) := by decide +kernel
theorem dX10_parts_1 : decode cX10_parts 1 = .ok (.invokevirtual 166, 3) := by decide +kernel
theorem dX10_parts_4 : decode cX10_parts 4 = .ok (.lstore_n 1, 1) := by decide +kernel
theorem dX10_parts_5 : decode cX10_parts 5 = .ok (.iconst 0, 1) := by decide +kernel
theorem dX10_parts_6 : decode cX10_parts 6 = .ok (.istore_n 3, 1) := by decide +kernel
theorem dX10_parts_7 : decode cX10_parts 7 = .ok (.lload_n 1, 1) := by decide +kernel
theorem dX10_parts_8 : decode cX10_parts 8 = .ok (.lconst 0, 1) := by decide +kernel
theorem dX10_parts_9 : decode cX10_parts 9 = .ok (.lcmp, 1) := by decide +kernel
theorem dX10_parts_10 : decode cX10_parts 10 = .ok (.ifCond .eq 51, 3) := by decide +kernel
theorem dX10_parts_13 : decode cX10_parts 13 = .ok (.lload_n 1, 1) := by decide +kernel
theorem dX10_parts_14 : decode cX10_parts 14 = .ok (.lload_n 1, 1) := by decide +kernel
theorem dX10_parts_15 : decode cX10_parts 15 = .ok (.lneg, 1) := by decide +kernel
theorem dX10_parts_16 : decode cX10_parts 16 = .ok (.land, 1) := by decide +kernel
theorem dX10_parts_17 : decode cX10_parts 17 = .ok (.lstore 4, 2) := by decide +kernel
theorem dX10_parts_19 : decode cX10_parts 19 = .ok (.lconst 0, 1) := by decide +kernel
theorem dX10_parts_20 : decode cX10_parts 20 = .ok (.lstore 6, 2) := by decide +kernel
theorem dX10_parts_22 : decode cX10_parts 22 = .ok (.lload 4, 2) := by decide +kernel
theorem dX10_parts_24 : decode cX10_parts 24 = .ok (.lload 6, 2) := by decide +kernel
theorem dX10_parts_26 : decode cX10_parts 26 = .ok (.lcmp, 1) := by decide +kernel
theorem dX10_parts_27 : decode cX10_parts 27 = .ok (.ifCond .eq 19, 3) := by decide +kernel
theorem dX10_parts_30 : decode cX10_parts 30 = .ok (.lload 4, 2) := by decide +kernel
theorem dX10_parts_32 : decode cX10_parts 32 = .ok (.lstore 6, 2) := by decide +kernel
theorem dX10_parts_34 : decode cX10_parts 34 = .ok (.lload 4, 2) := by decide +kernel
theorem dX10_parts_36 : decode cX10_parts 36 = .ok (.invokestatic 162, 3) := by decide +kernel
theorem dX10_parts_39 : decode cX10_parts 39 = .ok (.lload_n 1, 1) := by decide +kernel
theorem dX10_parts_40 : decode cX10_parts 40 = .ok (.land, 1) := by decide +kernel
theorem dX10_parts_41 : decode cX10_parts 41 = .ok (.lstore 4, 2) := by decide +kernel
theorem dX10_parts_43 : decode cX10_parts 43 = .ok (.goto (-21), 3) := by decide +kernel
theorem dX10_parts_46 : decode cX10_parts 46 = .ok (.lload_n 1, 1) := by decide +kernel
theorem dX10_parts_47 : decode cX10_parts 47 = .ok (.lload 4, 2) := by decide +kernel
theorem dX10_parts_49 : decode cX10_parts 49 = .ok (.ldc2_w 84, 3) := by decide +kernel
theorem dX10_parts_52 : decode cX10_parts 52 = .ok (.lxor, 1) := by decide +kernel
theorem dX10_parts_53 : decode cX10_parts 53 = .ok (.land, 1) := by decide +kernel
theorem dX10_parts_54 : decode cX10_parts 54 = .ok (.lstore_n 1, 1) := by decide +kernel
theorem dX10_parts_55 : decode cX10_parts 55 = .ok (.iinc 3 1, 3) := by decide +kernel
theorem dX10_parts_58 : decode cX10_parts 58 = .ok (.goto (-51), 3) := by decide +kernel
theorem dX10_parts_61 : decode cX10_parts 61 = .ok (.iload_n 3, 1) := by decide +kernel
theorem dX10_parts_62 : decode cX10_parts 62 = .ok (.ireturn, 1) := by decide +kernel
theorem dX10_keeps_0 : decode cX10_keeps 0 = .ok (.aload_n 0, 1) := by decide +kernel
theorem dX10_keeps_1 : decode cX10_keeps 1 = .ok (.aload_n 0, 1) := by decide +kernel
theorem dX10_keeps_2 : decode cX10_keeps 2 = .ok (.getfield 16, 3) := by decide +kernel
theorem dX10_keeps_5 : decode cX10_keeps 5 = .ok (.iload_n 1, 1) := by decide +kernel
theorem dX10_keeps_6 : decode cX10_keeps 6 = .ok (.iaload, 1) := by decide +kernel
theorem dX10_keeps_7 : decode cX10_keeps 7 = .ok (.putfield 188, 3) := by decide +kernel
theorem dX10_keeps_10 : decode cX10_keeps 10 = .ok (.aload_n 0, 1) := by decide +kernel
theorem dX10_keeps_11 : decode cX10_keeps 11 = .ok (.aload_n 0, 1) := by decide +kernel
theorem dX10_keeps_12 : decode cX10_keeps 12 = .ok (.getfield 19, 3) := by decide +kernel
theorem dX10_keeps_15 : decode cX10_keeps 15 = .ok (.iload_n 1, 1) := by decide +kernel
theorem dX10_keeps_16 : decode cX10_keeps 16 = .ok (.iaload, 1) := by decide +kernel
theorem dX10_keeps_17 : decode cX10_keeps 17 = .ok (.putfield 191, 3) := by decide +kernel
theorem dX10_keeps_20 : decode cX10_keeps 20 = .ok (.return_, 1) := by decide +kernel
theorem dX10_back_0 : decode cX10_back 0 = .ok (.aload_n 0, 1) := by decide +kernel
theorem dX10_back_1 : decode cX10_back 1 = .ok (.getfield 16, 3) := by decide +kernel
theorem dX10_back_4 : decode cX10_back 4 = .ok (.iload_n 1, 1) := by decide +kernel
theorem dX10_back_5 : decode cX10_back 5 = .ok (.aload_n 0, 1) := by decide +kernel
theorem dX10_back_6 : decode cX10_back 6 = .ok (.getfield 188, 3) := by decide +kernel
theorem dX10_back_9 : decode cX10_back 9 = .ok (.iastore, 1) := by decide +kernel
theorem dX10_back_10 : decode cX10_back 10 = .ok (.aload_n 0, 1) := by decide +kernel
theorem dX10_back_11 : decode cX10_back 11 = .ok (.getfield 19, 3) := by decide +kernel
theorem dX10_back_14 : decode cX10_back 14 = .ok (.iload_n 1, 1) := by decide +kernel
theorem dX10_back_15 : decode cX10_back 15 = .ok (.aload_n 0, 1) := by decide +kernel
theorem dX10_back_16 : decode cX10_back 16 = .ok (.getfield 191, 3) := by decide +kernel
theorem dX10_back_19 : decode cX10_back 19 = .ok (.iastore, 1) := by decide +kernel
theorem dX10_back_20 : decode cX10_back 20 = .ok (.return_, 1) := by decide +kernel
set_option maxRecDepth 20000 in
theorem ggX10_stepsThen_X10_lays : GoodIn wsX10_stepsThen wsX10_lays := goodIn_r _ [8, 9, 10, 11, 12, 3, 13, 1, 14, 15, 16, 17, 2, 18, 19, 20, 7, 21, 22, 23, 24, 25, 26, 27, 28, 29, 30, 31, 32, 33, 34, 35, 36, 37, 38, 39, 53, 54, 55, 56, 57, 58, 59, 60, 61, 62, 63, 64, 65, 66, 67, 68, 69, 70, 71, 72, 73, 74, 75, 76, 77, 78, 79, 80, 81, 82] (by decide +kernel) (by decide +kernel)
set_option maxRecDepth 20000 in
theorem gX10_stepsThen_X10_lays : GoodIn wsX10_stepsThen (wsV RX10 153 RX10 yX10_lays wsX10_lays) := goodIn_app (goodIn_of _ (by decide +kernel)) ggX10_stepsThen_X10_lays
set_option maxRecDepth 20000 in
theorem ggX10_stepsThen_X10_walks : GoodIn wsX10_stepsThen wsX10_walks := goodIn_r _ [43, 9, 44, 53, 54, 55, 56, 57, 58, 59, 60, 61, 62, 63, 64, 65, 66, 67, 68, 69, 70, 71, 72, 73, 74, 75, 76, 77, 78, 79, 80, 81, 82] (by decide +kernel) (by decide +kernel)
set_option maxRecDepth 20000 in
theorem gX10_stepsThen_X10_walks : GoodIn wsX10_stepsThen (wsV RX10 110 RX10 yX10_walks wsX10_walks) := goodIn_app (goodIn_of _ (by decide +kernel)) ggX10_stepsThen_X10_walks
set_option maxRecDepth 20000 in
theorem ggX10_stepsThen_X10_steps : GoodIn wsX10_stepsThen wsX10_steps := goodIn_r _ [47, 27, 28, 7, 29, 48, 49, 50, 51, 52, 44] (by decide +kernel) (by decide +kernel)
set_option maxRecDepth 20000 in
theorem gX10_stepsThen_X10_steps : GoodIn wsX10_stepsThen (va_wsS RX10 170 yX10_steps wsX10_steps) := goodIn_app (goodIn_of _ (by decide +kernel)) ggX10_stepsThen_X10_steps
theorem dX10_stepsThen_0 : decode cX10_stepsThen 0 = .ok (.aload_n 0, 1) := by decide +kernel
theorem dX10_stepsThen_1 : decode cX10_stepsThen 1 = .ok (.invokevirtual 153, 3) := by decide +kernel
theorem dX10_stepsThen_4 : decode cX10_stepsThen 4 = .ok (.pop, 1) := by decide +kernel
theorem dX10_stepsThen_5 : decode cX10_stepsThen 5 = .ok (.aload_n 0, 1) := by decide +kernel
theorem dX10_stepsThen_6 : decode cX10_stepsThen 6 = .ok (.aload_n 0, 1) := by decide +kernel
theorem dX10_stepsThen_7 : decode cX10_stepsThen 7 = .ok (.getfield 147, 3) := by decide +kernel
theorem dX10_stepsThen_10 : decode cX10_stepsThen 10 = .ok (.aload_n 0, 1) := by decide +kernel
theorem dX10_stepsThen_11 : decode cX10_stepsThen 11 = .ok (.getfield 150, 3) := by decide +kernel
theorem dX10_stepsThen_14 : decode cX10_stepsThen 14 = .ok (.aload_n 0, 1) := by decide +kernel
theorem dX10_stepsThen_15 : decode cX10_stepsThen 15 = .ok (.getfield 34, 3) := by decide +kernel
theorem dX10_stepsThen_18 : decode cX10_stepsThen 18 = .ok (.iconst (-1), 1) := by decide +kernel
theorem dX10_stepsThen_19 : decode cX10_stepsThen 19 = .ok (.invokevirtual 110, 3) := by decide +kernel
theorem dX10_stepsThen_22 : decode cX10_stepsThen 22 = .ok (.iload_n 1, 1) := by decide +kernel
theorem dX10_stepsThen_23 : decode cX10_stepsThen 23 = .ok (.iload_n 2, 1) := by decide +kernel
theorem dX10_stepsThen_24 : decode cX10_stepsThen 24 = .ok (.invokestatic 170, 3) := by decide +kernel
theorem dX10_stepsThen_27 : decode cX10_stepsThen 27 = .ok (.ireturn, 1) := by decide +kernel
set_option maxRecDepth 20000 in
theorem ggX10_least_X10_isOne : GoodIn wsX10_least wsX10_isOne := goodIn_r _ [7, 8, 9, 10, 6, 11, 78, 79, 80, 81, 82, 83, 84, 85, 86, 87, 88, 89, 90, 91, 92, 93, 94, 95, 96, 97, 98, 99, 100, 101, 102, 103, 104, 105, 106, 107] (by decide +kernel) (by decide +kernel)
set_option maxRecDepth 20000 in
theorem gX10_least_X10_isOne : GoodIn wsX10_least (wsV RX10 92 RX10 yX10_isOne wsX10_isOne) := goodIn_app (goodIn_of _ (by decide +kernel)) ggX10_least_X10_isOne
set_option maxRecDepth 20000 in
theorem ggX10_least_X10_isCell : GoodIn wsX10_least wsX10_isCell := goodIn_r _ [14, 15, 9, 10, 6, 11] (by decide +kernel) (by decide +kernel)
set_option maxRecDepth 20000 in
theorem gX10_least_X10_isCell : GoodIn wsX10_least (va_wsS RX10 72 yX10_isCell wsX10_isCell) := goodIn_app (goodIn_of _ (by decide +kernel)) ggX10_least_X10_isCell
set_option maxRecDepth 20000 in
theorem ggX10_least_X10_in : GoodIn wsX10_least wsX10_in := goodIn_r _ [11] (by decide +kernel) (by decide +kernel)
set_option maxRecDepth 20000 in
theorem gX10_least_X10_in : GoodIn wsX10_least (va_wsS RX10 61 yX10_in wsX10_in) := goodIn_app (goodIn_of _ (by decide +kernel)) ggX10_least_X10_in
set_option maxRecDepth 20000 in
theorem ggX10_least_X10_keeps : GoodIn wsX10_least wsX10_keeps := goodIn_r _ [19, 1, 20, 2, 21, 78, 79, 80, 81, 82, 83, 84, 85, 86, 87, 88, 89, 90, 91, 92, 93, 94, 95, 96, 97, 98, 99, 100, 101, 102, 103, 104, 105, 106, 107] (by decide +kernel) (by decide +kernel)
set_option maxRecDepth 20000 in
theorem gX10_least_X10_keeps : GoodIn wsX10_least (wsV RX10 194 RX10 yX10_keeps wsX10_keeps) := goodIn_app (goodIn_of _ (by decide +kernel)) ggX10_least_X10_keeps
set_option maxRecDepth 20000 in
theorem ggX10_least_X10_stepsThen : GoodIn wsX10_least wsX10_stepsThen := goodIn_r _ [25, 26, 27, 28, 29, 30, 31, 6, 32, 33, 34, 35, 36, 37, 8, 38, 2, 1, 39, 40, 41, 42, 43, 44, 45, 46, 47, 48, 49, 50, 51, 52, 53, 54, 55, 56, 57, 58, 59, 60, 61, 62, 63, 64, 65, 66, 67, 68, 69, 70, 71, 72, 73, 78, 79, 80, 81, 82, 83, 84, 85, 86, 87, 88, 89, 90, 91, 92, 93, 94, 95, 96, 97, 98, 99, 100, 101, 102, 103, 104, 105, 106, 107] (by decide +kernel) (by decide +kernel)
set_option maxRecDepth 20000 in
theorem gX10_least_X10_stepsThen : GoodIn wsX10_least (wsV RX10 198 RX10 yX10_stepsThen wsX10_stepsThen) := goodIn_app (goodIn_of _ (by decide +kernel)) ggX10_least_X10_stepsThen
set_option maxRecDepth 20000 in
theorem ggX10_least_X10_back : GoodIn wsX10_least wsX10_back := goodIn_r _ [77, 1, 20, 2, 21, 78, 79, 80, 81, 82, 83, 84, 85, 86, 87, 88, 89, 90, 91, 92, 93, 94, 95, 96, 97, 98, 99, 100, 101, 102, 103, 104, 105, 106, 107] (by decide +kernel) (by decide +kernel)
set_option maxRecDepth 20000 in
theorem gX10_least_X10_back : GoodIn wsX10_least (wsV RX10 201 RX10 yX10_back wsX10_back) := goodIn_app (goodIn_of _ (by decide +kernel)) ggX10_least_X10_back
theorem dX10_least_0 : decode cX10_least 0 = .ok (.aload_n 0, 1) := by decide +kernel
theorem dX10_least_1 : decode cX10_least 1 = .ok (.iload_n 1, 1) := by decide +kernel
theorem dX10_least_2 : decode cX10_least 2 = .ok (.invokevirtual 92, 3) := by decide +kernel
theorem dX10_least_5 : decode cX10_least 5 = .ok (.ifCond .eq 30, 3) := by decide +kernel
theorem dX10_least_8 : decode cX10_least 8 = .ok (.iload_n 2, 1) := by decide +kernel
theorem dX10_least_9 : decode cX10_least 9 = .ok (.i2l, 1) := by decide +kernel
theorem dX10_least_10 : decode cX10_least 10 = .ok (.invokestatic 72, 3) := by decide +kernel
theorem dX10_least_13 : decode cX10_least 13 = .ok (.ifCond .eq 22, 3) := by decide +kernel
theorem dX10_least_16 : decode cX10_least 16 = .ok (.iload_n 3, 1) := by decide +kernel
theorem dX10_least_17 : decode cX10_least 17 = .ok (.i2l, 1) := by decide +kernel
theorem dX10_least_18 : decode cX10_least 18 = .ok (.invokestatic 72, 3) := by decide +kernel
theorem dX10_least_21 : decode cX10_least 21 = .ok (.ifCond .eq 14, 3) := by decide +kernel
theorem dX10_least_24 : decode cX10_least 24 = .ok (.iload 4, 2) := by decide +kernel
theorem dX10_least_26 : decode cX10_least 26 = .ok (.i2l, 1) := by decide +kernel
theorem dX10_least_27 : decode cX10_least 27 = .ok (.lconst 0, 1) := by decide +kernel
theorem dX10_least_28 : decode cX10_least 28 = .ok (.lconst 1, 1) := by decide +kernel
theorem dX10_least_29 : decode cX10_least 29 = .ok (.invokestatic 61, 3) := by decide +kernel
theorem dX10_least_32 : decode cX10_least 32 = .ok (.ifCond .ne 5, 3) := by decide +kernel
theorem dX10_least_35 : decode cX10_least 35 = .ok (.iconst (-1), 1) := by decide +kernel
theorem dX10_least_36 : decode cX10_least 36 = .ok (.ireturn, 1) := by decide +kernel
theorem dX10_least_37 : decode cX10_least 37 = .ok (.aload_n 0, 1) := by decide +kernel
theorem dX10_least_38 : decode cX10_least 38 = .ok (.iload_n 1, 1) := by decide +kernel
theorem dX10_least_39 : decode cX10_least 39 = .ok (.invokevirtual 194, 3) := by decide +kernel
theorem dX10_least_42 : decode cX10_least 42 = .ok (.bipush (-4), 2) := by decide +kernel
theorem dX10_least_44 : decode cX10_least 44 = .ok (.istore 5, 2) := by decide +kernel
theorem dX10_least_46 : decode cX10_least 46 = .ok (.iconst 0, 1) := by decide +kernel
theorem dX10_least_47 : decode cX10_least 47 = .ok (.istore 6, 2) := by decide +kernel
theorem dX10_least_49 : decode cX10_least 49 = .ok (.iload 6, 2) := by decide +kernel
theorem dX10_least_51 : decode cX10_least 51 = .ok (.sipush 3600, 3) := by decide +kernel
theorem dX10_least_54 : decode cX10_least 54 = .ok (.if_icmp .ge 72, 3) := by decide +kernel
theorem dX10_least_57 : decode cX10_least 57 = .ok (.iload 5, 2) := by decide +kernel
theorem dX10_least_59 : decode cX10_least 59 = .ok (.bipush (-4), 2) := by decide +kernel
theorem dX10_least_61 : decode cX10_least 61 = .ok (.if_icmp .ne 65, 3) := by decide +kernel
theorem dX10_least_64 : decode cX10_least 64 = .ok (.iload 6, 2) := by decide +kernel
theorem dX10_least_66 : decode cX10_least 66 = .ok (.bipush 36, 2) := by decide +kernel
theorem dX10_least_68 : decode cX10_least 68 = .ok (.idiv, 1) := by decide +kernel
theorem dX10_least_69 : decode cX10_least 69 = .ok (.istore 7, 2) := by decide +kernel
theorem dX10_least_71 : decode cX10_least 71 = .ok (.iload 7, 2) := by decide +kernel
theorem dX10_least_73 : decode cX10_least 73 = .ok (.ifCond .gt 8, 3) := by decide +kernel
theorem dX10_least_76 : decode cX10_least 76 = .ok (.iload 6, 2) := by decide +kernel
theorem dX10_least_78 : decode cX10_least 78 = .ok (.ifCond .ne 42, 3) := by decide +kernel
theorem dX10_least_81 : decode cX10_least 81 = .ok (.aload_n 0, 1) := by decide +kernel
theorem dX10_least_82 : decode cX10_least 82 = .ok (.getfield 16, 3) := by decide +kernel
theorem dX10_least_85 : decode cX10_least 85 = .ok (.iload_n 1, 1) := by decide +kernel
theorem dX10_least_86 : decode cX10_least 86 = .ok (.iload 6, 2) := by decide +kernel
theorem dX10_least_88 : decode cX10_least 88 = .ok (.bipush 36, 2) := by decide +kernel
theorem dX10_least_90 : decode cX10_least 90 = .ok (.irem, 1) := by decide +kernel
theorem dX10_least_91 : decode cX10_least 91 = .ok (.iastore, 1) := by decide +kernel
theorem dX10_least_92 : decode cX10_least 92 = .ok (.aload_n 0, 1) := by decide +kernel
theorem dX10_least_93 : decode cX10_least 93 = .ok (.getfield 19, 3) := by decide +kernel
theorem dX10_least_96 : decode cX10_least 96 = .ok (.iload_n 1, 1) := by decide +kernel
theorem dX10_least_97 : decode cX10_least 97 = .ok (.iload 7, 2) := by decide +kernel
theorem dX10_least_99 : decode cX10_least 99 = .ok (.iastore, 1) := by decide +kernel
theorem dX10_least_100 : decode cX10_least 100 = .ok (.aload_n 0, 1) := by decide +kernel
theorem dX10_least_101 : decode cX10_least 101 = .ok (.iload_n 2, 1) := by decide +kernel
theorem dX10_least_102 : decode cX10_least 102 = .ok (.iload_n 3, 1) := by decide +kernel
theorem dX10_least_103 : decode cX10_least 103 = .ok (.invokevirtual 198, 3) := by decide +kernel
theorem dX10_least_106 : decode cX10_least 106 = .ok (.bipush (-4), 2) := by decide +kernel
theorem dX10_least_108 : decode cX10_least 108 = .ok (.if_icmp .ne 8, 3) := by decide +kernel
theorem dX10_least_111 : decode cX10_least 111 = .ok (.bipush (-4), 2) := by decide +kernel
theorem dX10_least_113 : decode cX10_least 113 = .ok (.goto 5, 3) := by decide +kernel
theorem dX10_least_116 : decode cX10_least 116 = .ok (.iload 6, 2) := by decide +kernel
theorem dX10_least_118 : decode cX10_least 118 = .ok (.istore 5, 2) := by decide +kernel
theorem dX10_least_120 : decode cX10_least 120 = .ok (.iinc 6 1, 3) := by decide +kernel
theorem dX10_least_123 : decode cX10_least 123 = .ok (.goto (-74), 3) := by decide +kernel
theorem dX10_least_126 : decode cX10_least 126 = .ok (.aload_n 0, 1) := by decide +kernel
theorem dX10_least_127 : decode cX10_least 127 = .ok (.iload_n 1, 1) := by decide +kernel
theorem dX10_least_128 : decode cX10_least 128 = .ok (.invokevirtual 201, 3) := by decide +kernel
theorem dX10_least_131 : decode cX10_least 131 = .ok (.iload 5, 2) := by decide +kernel
theorem dX10_least_133 : decode cX10_least 133 = .ok (.bipush (-4), 2) := by decide +kernel
theorem dX10_least_135 : decode cX10_least 135 = .ok (.if_icmp .ne 8, 3) := by decide +kernel
theorem dX10_least_138 : decode cX10_least 138 = .ok (.bipush (-4), 2) := by decide +kernel
theorem dX10_least_140 : decode cX10_least 140 = .ok (.goto 21, 3) := by decide +kernel
theorem dX10_least_143 : decode cX10_least 143 = .ok (.iload 4, 2) := by decide +kernel
theorem dX10_least_145 : decode cX10_least 145 = .ok (.ifCond .ne 11, 3) := by decide +kernel
theorem dX10_least_148 : decode cX10_least 148 = .ok (.iload 5, 2) := by decide +kernel
theorem dX10_least_150 : decode cX10_least 150 = .ok (.bipush 36, 2) := by decide +kernel
theorem dX10_least_152 : decode cX10_least 152 = .ok (.idiv, 1) := by decide +kernel
theorem dX10_least_153 : decode cX10_least 153 = .ok (.goto 8, 3) := by decide +kernel
theorem dX10_least_156 : decode cX10_least 156 = .ok (.iload 5, 2) := by decide +kernel
theorem dX10_least_158 : decode cX10_least 158 = .ok (.bipush 36, 2) := by decide +kernel
theorem dX10_least_160 : decode cX10_least 160 = .ok (.irem, 1) := by decide +kernel
theorem dX10_least_161 : decode cX10_least 161 = .ok (.ireturn, 1) := by decide +kernel
set_option maxRecDepth 20000 in
theorem ggX10_game_X10_isOne : GoodIn wsX10_game wsX10_isOne := goodIn_r _ [9, 10, 11, 12, 8, 13, 80, 81, 82, 83, 84, 85, 86, 87, 88, 89, 90, 91, 92, 93, 94, 95, 96, 97, 98, 99, 100, 101, 102, 103, 104, 105, 106, 107, 108, 109] (by decide +kernel) (by decide +kernel)
set_option maxRecDepth 20000 in
theorem gX10_game_X10_isOne : GoodIn wsX10_game (wsV RX10 92 RX10 yX10_isOne wsX10_isOne) := goodIn_app (goodIn_of _ (by decide +kernel)) ggX10_game_X10_isOne
set_option maxRecDepth 20000 in
theorem ggX10_game_X10_in : GoodIn wsX10_game wsX10_in := goodIn_r _ [13] (by decide +kernel) (by decide +kernel)
set_option maxRecDepth 20000 in
theorem gX10_game_X10_in : GoodIn wsX10_game (va_wsS RX10 61 yX10_in wsX10_in) := goodIn_app (goodIn_of _ (by decide +kernel)) ggX10_game_X10_in
set_option maxRecDepth 20000 in
theorem ggX10_game_X10_isCell : GoodIn wsX10_game wsX10_isCell := goodIn_r _ [16, 17, 11, 12, 8, 13] (by decide +kernel) (by decide +kernel)
set_option maxRecDepth 20000 in
theorem gX10_game_X10_isCell : GoodIn wsX10_game (va_wsS RX10 72 yX10_isCell wsX10_isCell) := goodIn_app (goodIn_of _ (by decide +kernel)) ggX10_game_X10_isCell
set_option maxRecDepth 20000 in
theorem ggX10_game_X10_keeps : GoodIn wsX10_game wsX10_keeps := goodIn_r _ [21, 2, 22, 3, 23, 80, 81, 82, 83, 84, 85, 86, 87, 88, 89, 90, 91, 92, 93, 94, 95, 96, 97, 98, 99, 100, 101, 102, 103, 104, 105, 106, 107, 108, 109] (by decide +kernel) (by decide +kernel)
set_option maxRecDepth 20000 in
theorem gX10_game_X10_keeps : GoodIn wsX10_game (wsV RX10 194 RX10 yX10_keeps wsX10_keeps) := goodIn_app (goodIn_of _ (by decide +kernel)) ggX10_game_X10_keeps
set_option maxRecDepth 20000 in
theorem ggX10_game_X10_stepsThen : GoodIn wsX10_game wsX10_stepsThen := goodIn_r _ [27, 28, 29, 30, 31, 32, 33, 8, 34, 35, 36, 37, 38, 39, 10, 40, 3, 2, 41, 42, 43, 44, 45, 46, 47, 48, 49, 50, 51, 52, 53, 54, 55, 56, 57, 58, 59, 60, 61, 62, 63, 64, 65, 66, 67, 68, 69, 70, 71, 72, 73, 74, 75, 80, 81, 82, 83, 84, 85, 86, 87, 88, 89, 90, 91, 92, 93, 94, 95, 96, 97, 98, 99, 100, 101, 102, 103, 104, 105, 106, 107, 108, 109] (by decide +kernel) (by decide +kernel)
set_option maxRecDepth 20000 in
theorem gX10_game_X10_stepsThen : GoodIn wsX10_game (wsV RX10 198 RX10 yX10_stepsThen wsX10_stepsThen) := goodIn_app (goodIn_of _ (by decide +kernel)) ggX10_game_X10_stepsThen
set_option maxRecDepth 20000 in
theorem ggX10_game_X10_back : GoodIn wsX10_game wsX10_back := goodIn_r _ [79, 2, 22, 3, 23, 80, 81, 82, 83, 84, 85, 86, 87, 88, 89, 90, 91, 92, 93, 94, 95, 96, 97, 98, 99, 100, 101, 102, 103, 104, 105, 106, 107, 108, 109] (by decide +kernel) (by decide +kernel)
set_option maxRecDepth 20000 in
theorem gX10_game_X10_back : GoodIn wsX10_game (wsV RX10 201 RX10 yX10_back wsX10_back) := goodIn_app (goodIn_of _ (by decide +kernel)) ggX10_game_X10_back
theorem dX10_game_0 : decode cX10_game 0 = .ok (.aload_n 0, 1) := by decide +kernel
theorem dX10_game_1 : decode cX10_game 1 = .ok (.iload_n 1, 1) := by decide +kernel
theorem dX10_game_2 : decode cX10_game 2 = .ok (.invokevirtual 92, 3) := by decide +kernel
theorem dX10_game_5 : decode cX10_game 5 = .ok (.ifCond .eq 20, 3) := by decide +kernel
theorem dX10_game_8 : decode cX10_game 8 = .ok (.aload_n 0, 1) := by decide +kernel
theorem dX10_game_9 : decode cX10_game 9 = .ok (.iload_n 2, 1) := by decide +kernel
theorem dX10_game_10 : decode cX10_game 10 = .ok (.invokevirtual 92, 3) := by decide +kernel
theorem dX10_game_13 : decode cX10_game 13 = .ok (.ifCond .eq 12, 3) := by decide +kernel
theorem dX10_game_16 : decode cX10_game 16 = .ok (.iload_n 1, 1) := by decide +kernel
theorem dX10_game_17 : decode cX10_game 17 = .ok (.iload_n 2, 1) := by decide +kernel
theorem dX10_game_18 : decode cX10_game 18 = .ok (.if_icmp .eq 7, 3) := by decide +kernel
theorem dX10_game_21 : decode cX10_game 21 = .ok (.iconst 1, 1) := by decide +kernel
theorem dX10_game_22 : decode cX10_game 22 = .ok (.goto 4, 3) := by decide +kernel
theorem dX10_game_25 : decode cX10_game 25 = .ok (.iconst 0, 1) := by decide +kernel
theorem dX10_game_26 : decode cX10_game 26 = .ok (.istore 8, 2) := by decide +kernel
theorem dX10_game_28 : decode cX10_game 28 = .ok (.iload 8, 2) := by decide +kernel
theorem dX10_game_30 : decode cX10_game 30 = .ok (.ifCond .eq 57, 3) := by decide +kernel
theorem dX10_game_33 : decode cX10_game 33 = .ok (.iload_n 3, 1) := by decide +kernel
theorem dX10_game_34 : decode cX10_game 34 = .ok (.i2l, 1) := by decide +kernel
theorem dX10_game_35 : decode cX10_game 35 = .ok (.lconst 1, 1) := by decide +kernel
theorem dX10_game_36 : decode cX10_game 36 = .ok (.ldc2_w 95, 3) := by decide +kernel
theorem dX10_game_39 : decode cX10_game 39 = .ok (.invokestatic 61, 3) := by decide +kernel
theorem dX10_game_42 : decode cX10_game 42 = .ok (.ifCond .eq 45, 3) := by decide +kernel
theorem dX10_game_45 : decode cX10_game 45 = .ok (.iload 4, 2) := by decide +kernel
theorem dX10_game_47 : decode cX10_game 47 = .ok (.i2l, 1) := by decide +kernel
theorem dX10_game_48 : decode cX10_game 48 = .ok (.lconst 1, 1) := by decide +kernel
theorem dX10_game_49 : decode cX10_game 49 = .ok (.ldc2_w 95, 3) := by decide +kernel
theorem dX10_game_52 : decode cX10_game 52 = .ok (.invokestatic 61, 3) := by decide +kernel
theorem dX10_game_55 : decode cX10_game 55 = .ok (.ifCond .eq 32, 3) := by decide +kernel
theorem dX10_game_58 : decode cX10_game 58 = .ok (.iload 5, 2) := by decide +kernel
theorem dX10_game_60 : decode cX10_game 60 = .ok (.i2l, 1) := by decide +kernel
theorem dX10_game_61 : decode cX10_game 61 = .ok (.invokestatic 72, 3) := by decide +kernel
theorem dX10_game_64 : decode cX10_game 64 = .ok (.ifCond .eq 23, 3) := by decide +kernel
theorem dX10_game_67 : decode cX10_game 67 = .ok (.iload 6, 2) := by decide +kernel
theorem dX10_game_69 : decode cX10_game 69 = .ok (.i2l, 1) := by decide +kernel
theorem dX10_game_70 : decode cX10_game 70 = .ok (.invokestatic 72, 3) := by decide +kernel
theorem dX10_game_73 : decode cX10_game 73 = .ok (.ifCond .eq 14, 3) := by decide +kernel
theorem dX10_game_76 : decode cX10_game 76 = .ok (.iload 7, 2) := by decide +kernel
theorem dX10_game_78 : decode cX10_game 78 = .ok (.i2l, 1) := by decide +kernel
theorem dX10_game_79 : decode cX10_game 79 = .ok (.lconst 0, 1) := by decide +kernel
theorem dX10_game_80 : decode cX10_game 80 = .ok (.lconst 1, 1) := by decide +kernel
theorem dX10_game_81 : decode cX10_game 81 = .ok (.invokestatic 61, 3) := by decide +kernel
theorem dX10_game_84 : decode cX10_game 84 = .ok (.ifCond .ne 5, 3) := by decide +kernel
theorem dX10_game_87 : decode cX10_game 87 = .ok (.iconst (-1), 1) := by decide +kernel
theorem dX10_game_88 : decode cX10_game 88 = .ok (.ireturn, 1) := by decide +kernel
theorem dX10_game_89 : decode cX10_game 89 = .ok (.aload_n 0, 1) := by decide +kernel
theorem dX10_game_90 : decode cX10_game 90 = .ok (.getfield 16, 3) := by decide +kernel
theorem dX10_game_93 : decode cX10_game 93 = .ok (.iload_n 1, 1) := by decide +kernel
theorem dX10_game_94 : decode cX10_game 94 = .ok (.iaload, 1) := by decide +kernel
theorem dX10_game_95 : decode cX10_game 95 = .ok (.istore 9, 2) := by decide +kernel
theorem dX10_game_97 : decode cX10_game 97 = .ok (.aload_n 0, 1) := by decide +kernel
theorem dX10_game_98 : decode cX10_game 98 = .ok (.getfield 19, 3) := by decide +kernel
theorem dX10_game_101 : decode cX10_game 101 = .ok (.iload_n 1, 1) := by decide +kernel
theorem dX10_game_102 : decode cX10_game 102 = .ok (.iaload, 1) := by decide +kernel
theorem dX10_game_103 : decode cX10_game 103 = .ok (.istore 10, 2) := by decide +kernel
theorem dX10_game_105 : decode cX10_game 105 = .ok (.aload_n 0, 1) := by decide +kernel
theorem dX10_game_106 : decode cX10_game 106 = .ok (.iload_n 2, 1) := by decide +kernel
theorem dX10_game_107 : decode cX10_game 107 = .ok (.invokevirtual 194, 3) := by decide +kernel
theorem dX10_game_110 : decode cX10_game 110 = .ok (.iconst 0, 1) := by decide +kernel
theorem dX10_game_111 : decode cX10_game 111 = .ok (.istore 11, 2) := by decide +kernel
theorem dX10_game_113 : decode cX10_game 113 = .ok (.iload 11, 2) := by decide +kernel
theorem dX10_game_115 : decode cX10_game 115 = .ok (.sipush 1296, 3) := by decide +kernel
theorem dX10_game_118 : decode cX10_game 118 = .ok (.if_icmp .ge 77, 3) := by decide +kernel
theorem dX10_game_121 : decode cX10_game 121 = .ok (.aload_n 0, 1) := by decide +kernel
theorem dX10_game_122 : decode cX10_game 122 = .ok (.getfield 16, 3) := by decide +kernel
theorem dX10_game_125 : decode cX10_game 125 = .ok (.iload_n 1, 1) := by decide +kernel
theorem dX10_game_126 : decode cX10_game 126 = .ok (.iload 11, 2) := by decide +kernel
theorem dX10_game_128 : decode cX10_game 128 = .ok (.bipush 36, 2) := by decide +kernel
theorem dX10_game_130 : decode cX10_game 130 = .ok (.idiv, 1) := by decide +kernel
theorem dX10_game_131 : decode cX10_game 131 = .ok (.iastore, 1) := by decide +kernel
theorem dX10_game_132 : decode cX10_game 132 = .ok (.aload_n 0, 1) := by decide +kernel
theorem dX10_game_133 : decode cX10_game 133 = .ok (.getfield 19, 3) := by decide +kernel
theorem dX10_game_136 : decode cX10_game 136 = .ok (.iload_n 1, 1) := by decide +kernel
theorem dX10_game_137 : decode cX10_game 137 = .ok (.iload_n 3, 1) := by decide +kernel
theorem dX10_game_138 : decode cX10_game 138 = .ok (.iastore, 1) := by decide +kernel
theorem dX10_game_139 : decode cX10_game 139 = .ok (.aload_n 0, 1) := by decide +kernel
theorem dX10_game_140 : decode cX10_game 140 = .ok (.getfield 16, 3) := by decide +kernel
theorem dX10_game_143 : decode cX10_game 143 = .ok (.iload_n 2, 1) := by decide +kernel
theorem dX10_game_144 : decode cX10_game 144 = .ok (.iload 11, 2) := by decide +kernel
theorem dX10_game_146 : decode cX10_game 146 = .ok (.bipush 36, 2) := by decide +kernel
theorem dX10_game_148 : decode cX10_game 148 = .ok (.irem, 1) := by decide +kernel
theorem dX10_game_149 : decode cX10_game 149 = .ok (.iastore, 1) := by decide +kernel
theorem dX10_game_150 : decode cX10_game 150 = .ok (.aload_n 0, 1) := by decide +kernel
theorem dX10_game_151 : decode cX10_game 151 = .ok (.getfield 19, 3) := by decide +kernel
theorem dX10_game_154 : decode cX10_game 154 = .ok (.iload_n 2, 1) := by decide +kernel
theorem dX10_game_155 : decode cX10_game 155 = .ok (.iload 4, 2) := by decide +kernel
theorem dX10_game_157 : decode cX10_game 157 = .ok (.iastore, 1) := by decide +kernel
theorem dX10_game_158 : decode cX10_game 158 = .ok (.aload_n 0, 1) := by decide +kernel
theorem dX10_game_159 : decode cX10_game 159 = .ok (.iload 5, 2) := by decide +kernel
theorem dX10_game_161 : decode cX10_game 161 = .ok (.iload 6, 2) := by decide +kernel
theorem dX10_game_163 : decode cX10_game 163 = .ok (.invokevirtual 198, 3) := by decide +kernel
theorem dX10_game_166 : decode cX10_game 166 = .ok (.istore 12, 2) := by decide +kernel
theorem dX10_game_168 : decode cX10_game 168 = .ok (.aload_n 0, 1) := by decide +kernel
theorem dX10_game_169 : decode cX10_game 169 = .ok (.getfield 40, 3) := by decide +kernel
theorem dX10_game_172 : decode cX10_game 172 = .ok (.iload 11, 2) := by decide +kernel
theorem dX10_game_174 : decode cX10_game 174 = .ok (.iload 12, 2) := by decide +kernel
theorem dX10_game_176 : decode cX10_game 176 = .ok (.bipush (-4), 2) := by decide +kernel
theorem dX10_game_178 : decode cX10_game 178 = .ok (.if_icmp .ne 8, 3) := by decide +kernel
theorem dX10_game_181 : decode cX10_game 181 = .ok (.bipush 99, 2) := by decide +kernel
theorem dX10_game_183 : decode cX10_game 183 = .ok (.goto 5, 3) := by decide +kernel
theorem dX10_game_186 : decode cX10_game 186 = .ok (.iload 12, 2) := by decide +kernel
theorem dX10_game_188 : decode cX10_game 188 = .ok (.iastore, 1) := by decide +kernel
theorem dX10_game_189 : decode cX10_game 189 = .ok (.iinc 11 1, 3) := by decide +kernel
theorem dX10_game_192 : decode cX10_game 192 = .ok (.goto (-79), 3) := by decide +kernel
theorem dX10_game_195 : decode cX10_game 195 = .ok (.aload_n 0, 1) := by decide +kernel
theorem dX10_game_196 : decode cX10_game 196 = .ok (.getfield 16, 3) := by decide +kernel
theorem dX10_game_199 : decode cX10_game 199 = .ok (.iload_n 1, 1) := by decide +kernel
theorem dX10_game_200 : decode cX10_game 200 = .ok (.iload 9, 2) := by decide +kernel
theorem dX10_game_202 : decode cX10_game 202 = .ok (.iastore, 1) := by decide +kernel
theorem dX10_game_203 : decode cX10_game 203 = .ok (.aload_n 0, 1) := by decide +kernel
theorem dX10_game_204 : decode cX10_game 204 = .ok (.getfield 19, 3) := by decide +kernel
theorem dX10_game_207 : decode cX10_game 207 = .ok (.iload_n 1, 1) := by decide +kernel
theorem dX10_game_208 : decode cX10_game 208 = .ok (.iload 10, 2) := by decide +kernel
theorem dX10_game_210 : decode cX10_game 210 = .ok (.iastore, 1) := by decide +kernel
theorem dX10_game_211 : decode cX10_game 211 = .ok (.aload_n 0, 1) := by decide +kernel
theorem dX10_game_212 : decode cX10_game 212 = .ok (.iload_n 2, 1) := by decide +kernel
theorem dX10_game_213 : decode cX10_game 213 = .ok (.invokevirtual 201, 3) := by decide +kernel
theorem dX10_game_216 : decode cX10_game 216 = .ok (.iconst 0, 1) := by decide +kernel
theorem dX10_game_217 : decode cX10_game 217 = .ok (.istore 11, 2) := by decide +kernel
theorem dX10_game_219 : decode cX10_game 219 = .ok (.bipush (-4), 2) := by decide +kernel
theorem dX10_game_221 : decode cX10_game 221 = .ok (.istore 12, 2) := by decide +kernel
theorem dX10_game_223 : decode cX10_game 223 = .ok (.sipush 1295, 3) := by decide +kernel
theorem dX10_game_226 : decode cX10_game 226 = .ok (.istore 13, 2) := by decide +kernel
theorem dX10_game_228 : decode cX10_game 228 = .ok (.iload 13, 2) := by decide +kernel
theorem dX10_game_230 : decode cX10_game 230 = .ok (.ifCond .lt 133, 3) := by decide +kernel
theorem dX10_game_233 : decode cX10_game 233 = .ok (.iconst 1, 1) := by decide +kernel
theorem dX10_game_234 : decode cX10_game 234 = .ok (.istore 14, 2) := by decide +kernel
theorem dX10_game_236 : decode cX10_game 236 = .ok (.iconst 0, 1) := by decide +kernel
theorem dX10_game_237 : decode cX10_game 237 = .ok (.istore 15, 2) := by decide +kernel
theorem dX10_game_239 : decode cX10_game 239 = .ok (.iload 15, 2) := by decide +kernel
theorem dX10_game_241 : decode cX10_game 241 = .ok (.bipush 36, 2) := by decide +kernel
theorem dX10_game_243 : decode cX10_game 243 = .ok (.if_icmp .ge 73, 3) := by decide +kernel
theorem dX10_game_246 : decode cX10_game 246 = .ok (.iload 14, 2) := by decide +kernel
theorem dX10_game_248 : decode cX10_game 248 = .ok (.ifCond .eq 68, 3) := by decide +kernel
theorem dX10_game_251 : decode cX10_game 251 = .ok (.aload_n 0, 1) := by decide +kernel
theorem dX10_game_252 : decode cX10_game 252 = .ok (.getfield 40, 3) := by decide +kernel
theorem dX10_game_255 : decode cX10_game 255 = .ok (.bipush 36, 2) := by decide +kernel
theorem dX10_game_257 : decode cX10_game 257 = .ok (.iload 15, 2) := by decide +kernel
theorem dX10_game_259 : decode cX10_game 259 = .ok (.imul, 1) := by decide +kernel
theorem dX10_game_260 : decode cX10_game 260 = .ok (.iload 13, 2) := by decide +kernel
theorem dX10_game_262 : decode cX10_game 262 = .ok (.bipush 36, 2) := by decide +kernel
theorem dX10_game_264 : decode cX10_game 264 = .ok (.irem, 1) := by decide +kernel
theorem dX10_game_265 : decode cX10_game 265 = .ok (.iadd, 1) := by decide +kernel
theorem dX10_game_266 : decode cX10_game 266 = .ok (.iaload, 1) := by decide +kernel
theorem dX10_game_267 : decode cX10_game 267 = .ok (.aload_n 0, 1) := by decide +kernel
theorem dX10_game_268 : decode cX10_game 268 = .ok (.getfield 40, 3) := by decide +kernel
theorem dX10_game_271 : decode cX10_game 271 = .ok (.iload 13, 2) := by decide +kernel
theorem dX10_game_273 : decode cX10_game 273 = .ok (.iaload, 1) := by decide +kernel
theorem dX10_game_274 : decode cX10_game 274 = .ok (.if_icmp .lt 33, 3) := by decide +kernel
theorem dX10_game_277 : decode cX10_game 277 = .ok (.aload_n 0, 1) := by decide +kernel
theorem dX10_game_278 : decode cX10_game 278 = .ok (.getfield 40, 3) := by decide +kernel
theorem dX10_game_281 : decode cX10_game 281 = .ok (.iload 13, 2) := by decide +kernel
theorem dX10_game_283 : decode cX10_game 283 = .ok (.bipush 36, 2) := by decide +kernel
theorem dX10_game_285 : decode cX10_game 285 = .ok (.idiv, 1) := by decide +kernel
theorem dX10_game_286 : decode cX10_game 286 = .ok (.bipush 36, 2) := by decide +kernel
theorem dX10_game_288 : decode cX10_game 288 = .ok (.imul, 1) := by decide +kernel
theorem dX10_game_289 : decode cX10_game 289 = .ok (.iload 15, 2) := by decide +kernel
theorem dX10_game_291 : decode cX10_game 291 = .ok (.iadd, 1) := by decide +kernel
theorem dX10_game_292 : decode cX10_game 292 = .ok (.iaload, 1) := by decide +kernel
theorem dX10_game_293 : decode cX10_game 293 = .ok (.aload_n 0, 1) := by decide +kernel
theorem dX10_game_294 : decode cX10_game 294 = .ok (.getfield 40, 3) := by decide +kernel
theorem dX10_game_297 : decode cX10_game 297 = .ok (.iload 13, 2) := by decide +kernel
theorem dX10_game_299 : decode cX10_game 299 = .ok (.iaload, 1) := by decide +kernel
theorem dX10_game_300 : decode cX10_game 300 = .ok (.if_icmp .gt 7, 3) := by decide +kernel
theorem dX10_game_303 : decode cX10_game 303 = .ok (.iconst 1, 1) := by decide +kernel
theorem dX10_game_304 : decode cX10_game 304 = .ok (.goto 4, 3) := by decide +kernel
theorem dX10_game_307 : decode cX10_game 307 = .ok (.iconst 0, 1) := by decide +kernel
theorem dX10_game_308 : decode cX10_game 308 = .ok (.istore 14, 2) := by decide +kernel
theorem dX10_game_310 : decode cX10_game 310 = .ok (.iinc 15 1, 3) := by decide +kernel
theorem dX10_game_313 : decode cX10_game 313 = .ok (.goto (-74), 3) := by decide +kernel
theorem dX10_game_316 : decode cX10_game 316 = .ok (.iload 11, 2) := by decide +kernel
theorem dX10_game_318 : decode cX10_game 318 = .ok (.iload 14, 2) := by decide +kernel
theorem dX10_game_320 : decode cX10_game 320 = .ok (.ifCond .eq 7, 3) := by decide +kernel
theorem dX10_game_323 : decode cX10_game 323 = .ok (.iconst 1, 1) := by decide +kernel
theorem dX10_game_324 : decode cX10_game 324 = .ok (.goto 4, 3) := by decide +kernel
theorem dX10_game_327 : decode cX10_game 327 = .ok (.iconst 0, 1) := by decide +kernel
theorem dX10_game_328 : decode cX10_game 328 = .ok (.iadd, 1) := by decide +kernel
theorem dX10_game_329 : decode cX10_game 329 = .ok (.istore 11, 2) := by decide +kernel
theorem dX10_game_331 : decode cX10_game 331 = .ok (.iload 14, 2) := by decide +kernel
theorem dX10_game_333 : decode cX10_game 333 = .ok (.ifCond .eq 20, 3) := by decide +kernel
theorem dX10_game_336 : decode cX10_game 336 = .ok (.bipush 100, 2) := by decide +kernel
theorem dX10_game_338 : decode cX10_game 338 = .ok (.iload 13, 2) := by decide +kernel
theorem dX10_game_340 : decode cX10_game 340 = .ok (.bipush 36, 2) := by decide +kernel
theorem dX10_game_342 : decode cX10_game 342 = .ok (.idiv, 1) := by decide +kernel
theorem dX10_game_343 : decode cX10_game 343 = .ok (.imul, 1) := by decide +kernel
theorem dX10_game_344 : decode cX10_game 344 = .ok (.iload 13, 2) := by decide +kernel
theorem dX10_game_346 : decode cX10_game 346 = .ok (.bipush 36, 2) := by decide +kernel
theorem dX10_game_348 : decode cX10_game 348 = .ok (.irem, 1) := by decide +kernel
theorem dX10_game_349 : decode cX10_game 349 = .ok (.iadd, 1) := by decide +kernel
theorem dX10_game_350 : decode cX10_game 350 = .ok (.goto 5, 3) := by decide +kernel
theorem dX10_game_353 : decode cX10_game 353 = .ok (.iload 12, 2) := by decide +kernel
theorem dX10_game_355 : decode cX10_game 355 = .ok (.istore 12, 2) := by decide +kernel
theorem dX10_game_357 : decode cX10_game 357 = .ok (.iinc 13 (-1), 3) := by decide +kernel
theorem dX10_game_360 : decode cX10_game 360 = .ok (.goto (-132), 3) := by decide +kernel
theorem dX10_game_363 : decode cX10_game 363 = .ok (.iload 7, 2) := by decide +kernel
theorem dX10_game_365 : decode cX10_game 365 = .ok (.ifCond .ne 8, 3) := by decide +kernel
theorem dX10_game_368 : decode cX10_game 368 = .ok (.iload 11, 2) := by decide +kernel
theorem dX10_game_370 : decode cX10_game 370 = .ok (.goto 5, 3) := by decide +kernel
theorem dX10_game_373 : decode cX10_game 373 = .ok (.iload 12, 2) := by decide +kernel
theorem dX10_game_375 : decode cX10_game 375 = .ok (.ireturn, 1) := by decide +kernel
