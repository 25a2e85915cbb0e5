set_option maxRecDepth 20000 in
theorem ggX10_type_X10_in : GoodIn wsX10_type wsX10_in := goodIn_r _ [10] (by decide +kernel) (by decide +kernel)
set_option maxRecDepth 20000 in
theorem gX10_type_X10_in : GoodIn wsX10_type (va_wsS RX10 61 yX10_in wsX10_in) := goodIn_app (goodIn_of _ (by decide +kernel)) ggX10_type_X10_in
theorem dX10_type_0 : decode cX10_type 0 = .ok (.iload_n 3, 1) := by decide +kernel
theorem dX10_type_1 : decode cX10_type 1 = .ok (.i2l, 1) := by decide +kernel
theorem dX10_type_2 : decode cX10_type 2 = .ok (.lconst 1, 1) := by decide +kernel
theorem dX10_type_3 : decode cX10_type 3 = .ok (.ldc2_w 119, 3) := by decide +kernel
theorem dX10_type_6 : decode cX10_type 6 = .ok (.invokestatic 61, 3) := by decide +kernel
theorem dX10_type_9 : decode cX10_type 9 = .ok (.ifCond .ne 5, 3) := by decide +kernel
theorem dX10_type_12 : decode cX10_type 12 = .ok (.iconst (-1), 1) := by decide +kernel
theorem dX10_type_13 : decode cX10_type 13 = .ok (.ireturn, 1) := by decide +kernel
theorem dX10_type_14 : decode cX10_type 14 = .ok (.iconst 0, 1) := by decide +kernel
theorem dX10_type_15 : decode cX10_type 15 = .ok (.istore 4, 2) := by decide +kernel
theorem dX10_type_17 : decode cX10_type 17 = .ok (.iload 4, 2) := by decide +kernel
theorem dX10_type_19 : decode cX10_type 19 = .ok (.iload_n 3, 1) := by decide +kernel
theorem dX10_type_20 : decode cX10_type 20 = .ok (.if_icmp .ge 34, 3) := by decide +kernel
theorem dX10_type_23 : decode cX10_type 23 = .ok (.lload_n 1, 1) := by decide +kernel
theorem dX10_type_24 : decode cX10_type 24 = .ok (.bipush 8, 2) := by decide +kernel
theorem dX10_type_26 : decode cX10_type 26 = .ok (.iload 4, 2) := by decide +kernel
theorem dX10_type_28 : decode cX10_type 28 = .ok (.imul, 1) := by decide +kernel
theorem dX10_type_29 : decode cX10_type 29 = .ok (.lshr, 1) := by decide +kernel
theorem dX10_type_30 : decode cX10_type 30 = .ok (.ldc2_w 121, 3) := by decide +kernel
theorem dX10_type_33 : decode cX10_type 33 = .ok (.land, 1) := by decide +kernel
theorem dX10_type_34 : decode cX10_type 34 = .ok (.ldc2_w 123, 3) := by decide +kernel
theorem dX10_type_37 : decode cX10_type 37 = .ok (.ldc2_w 125, 3) := by decide +kernel
theorem dX10_type_40 : decode cX10_type 40 = .ok (.invokestatic 61, 3) := by decide +kernel
theorem dX10_type_43 : decode cX10_type 43 = .ok (.ifCond .ne 5, 3) := by decide +kernel
theorem dX10_type_46 : decode cX10_type 46 = .ok (.iconst (-1), 1) := by decide +kernel
theorem dX10_type_47 : decode cX10_type 47 = .ok (.ireturn, 1) := by decide +kernel
theorem dX10_type_48 : decode cX10_type 48 = .ok (.iinc 4 1, 3) := by decide +kernel
theorem dX10_type_51 : decode cX10_type 51 = .ok (.goto (-34), 3) := by decide +kernel
theorem dX10_type_54 : decode cX10_type 54 = .ok (.aload_n 0, 1) := by decide +kernel
theorem dX10_type_55 : decode cX10_type 55 = .ok (.getfield 127, 3) := by decide +kernel
theorem dX10_type_58 : decode cX10_type 58 = .ok (.iload_n 3, 1) := by decide +kernel
theorem dX10_type_59 : decode cX10_type 59 = .ok (.iadd, 1) := by decide +kernel
theorem dX10_type_60 : decode cX10_type 60 = .ok (.bipush 60, 2) := by decide +kernel
theorem dX10_type_62 : decode cX10_type 62 = .ok (.if_icmp .le 6, 3) := by decide +kernel
theorem dX10_type_65 : decode cX10_type 65 = .ok (.bipush (-3), 2) := by decide +kernel
theorem dX10_type_67 : decode cX10_type 67 = .ok (.ireturn, 1) := by decide +kernel
theorem dX10_type_68 : decode cX10_type 68 = .ok (.iload_n 3, 1) := by decide +kernel
theorem dX10_type_69 : decode cX10_type 69 = .ok (.iconst 1, 1) := by decide +kernel
theorem dX10_type_70 : decode cX10_type 70 = .ok (.isub, 1) := by decide +kernel
theorem dX10_type_71 : decode cX10_type 71 = .ok (.istore 4, 2) := by decide +kernel
theorem dX10_type_73 : decode cX10_type 73 = .ok (.iload 4, 2) := by decide +kernel
theorem dX10_type_75 : decode cX10_type 75 = .ok (.ifCond .lt 40, 3) := by decide +kernel
theorem dX10_type_78 : decode cX10_type 78 = .ok (.aload_n 0, 1) := by decide +kernel
theorem dX10_type_79 : decode cX10_type 79 = .ok (.getfield 28, 3) := by decide +kernel
theorem dX10_type_82 : decode cX10_type 82 = .ok (.aload_n 0, 1) := by decide +kernel
theorem dX10_type_83 : decode cX10_type 83 = .ok (.getfield 127, 3) := by decide +kernel
theorem dX10_type_86 : decode cX10_type 86 = .ok (.lload_n 1, 1) := by decide +kernel
theorem dX10_type_87 : decode cX10_type 87 = .ok (.bipush 8, 2) := by decide +kernel
theorem dX10_type_89 : decode cX10_type 89 = .ok (.iload 4, 2) := by decide +kernel
theorem dX10_type_91 : decode cX10_type 91 = .ok (.imul, 1) := by decide +kernel
theorem dX10_type_92 : decode cX10_type 92 = .ok (.lshr, 1) := by decide +kernel
theorem dX10_type_93 : decode cX10_type 93 = .ok (.ldc2_w 121, 3) := by decide +kernel
theorem dX10_type_96 : decode cX10_type 96 = .ok (.land, 1) := by decide +kernel
theorem dX10_type_97 : decode cX10_type 97 = .ok (.l2i, 1) := by decide +kernel
theorem dX10_type_98 : decode cX10_type 98 = .ok (.iastore, 1) := by decide +kernel
theorem dX10_type_99 : decode cX10_type 99 = .ok (.aload_n 0, 1) := by decide +kernel
theorem dX10_type_100 : decode cX10_type 100 = .ok (.dup, 1) := by decide +kernel
theorem dX10_type_101 : decode cX10_type 101 = .ok (.getfield 127, 3) := by decide +kernel
theorem dX10_type_104 : decode cX10_type 104 = .ok (.iconst 1, 1) := by decide +kernel
theorem dX10_type_105 : decode cX10_type 105 = .ok (.iadd, 1) := by decide +kernel
theorem dX10_type_106 : decode cX10_type 106 = .ok (.putfield 127, 3) := by decide +kernel
theorem dX10_type_109 : decode cX10_type 109 = .ok (.iinc 4 (-1), 3) := by decide +kernel
theorem dX10_type_112 : decode cX10_type 112 = .ok (.goto (-39), 3) := by decide +kernel
theorem dX10_type_115 : decode cX10_type 115 = .ok (.aload_n 0, 1) := by decide +kernel
theorem dX10_type_116 : decode cX10_type 116 = .ok (.getfield 127, 3) := by decide +kernel
theorem dX10_type_119 : decode cX10_type 119 = .ok (.ireturn, 1) := by decide +kernel
theorem dX10_here_0 : decode cX10_here 0 = .ok (.aload_n 0, 1) := by decide +kernel
theorem dX10_here_1 : decode cX10_here 1 = .ok (.getfield 130, 3) := by decide +kernel
theorem dX10_here_4 : decode cX10_here 4 = .ok (.aload_n 0, 1) := by decide +kernel
theorem dX10_here_5 : decode cX10_here 5 = .ok (.getfield 127, 3) := by decide +kernel
theorem dX10_here_8 : decode cX10_here 8 = .ok (.if_icmp .ge 30, 3) := by decide +kernel
theorem dX10_here_11 : decode cX10_here 11 = .ok (.aload_n 0, 1) := by decide +kernel
theorem dX10_here_12 : decode cX10_here 12 = .ok (.getfield 28, 3) := by decide +kernel
theorem dX10_here_15 : decode cX10_here 15 = .ok (.aload_n 0, 1) := by decide +kernel
theorem dX10_here_16 : decode cX10_here 16 = .ok (.getfield 130, 3) := by decide +kernel
theorem dX10_here_19 : decode cX10_here 19 = .ok (.iaload, 1) := by decide +kernel
theorem dX10_here_20 : decode cX10_here 20 = .ok (.bipush 32, 2) := by decide +kernel
theorem dX10_here_22 : decode cX10_here 22 = .ok (.if_icmp .ne 16, 3) := by decide +kernel
theorem dX10_here_25 : decode cX10_here 25 = .ok (.aload_n 0, 1) := by decide +kernel
theorem dX10_here_26 : decode cX10_here 26 = .ok (.dup, 1) := by decide +kernel
theorem dX10_here_27 : decode cX10_here 27 = .ok (.getfield 130, 3) := by decide +kernel
theorem dX10_here_30 : decode cX10_here 30 = .ok (.iconst 1, 1) := by decide +kernel
theorem dX10_here_31 : decode cX10_here 31 = .ok (.iadd, 1) := by decide +kernel
theorem dX10_here_32 : decode cX10_here 32 = .ok (.putfield 130, 3) := by decide +kernel
theorem dX10_here_35 : decode cX10_here 35 = .ok (.goto (-35), 3) := by decide +kernel
theorem dX10_here_38 : decode cX10_here 38 = .ok (.aload_n 0, 1) := by decide +kernel
theorem dX10_here_39 : decode cX10_here 39 = .ok (.getfield 130, 3) := by decide +kernel
theorem dX10_here_42 : decode cX10_here 42 = .ok (.aload_n 0, 1) := by decide +kernel
theorem dX10_here_43 : decode cX10_here 43 = .ok (.getfield 127, 3) := by decide +kernel
theorem dX10_here_46 : decode cX10_here 46 = .ok (.if_icmp .ge 15, 3) := by decide +kernel
theorem dX10_here_49 : decode cX10_here 49 = .ok (.aload_n 0, 1) := by decide +kernel
theorem dX10_here_50 : decode cX10_here 50 = .ok (.getfield 28, 3) := by decide +kernel
theorem dX10_here_53 : decode cX10_here 53 = .ok (.aload_n 0, 1) := by decide +kernel
theorem dX10_here_54 : decode cX10_here 54 = .ok (.getfield 130, 3) := by decide +kernel
theorem dX10_here_57 : decode cX10_here 57 = .ok (.iaload, 1) := by decide +kernel
theorem dX10_here_58 : decode cX10_here 58 = .ok (.goto 4, 3) := by decide +kernel
theorem dX10_here_61 : decode cX10_here 61 = .ok (.iconst 0, 1) := by decide +kernel
theorem dX10_here_62 : decode cX10_here 62 = .ok (.ireturn, 1) := by decide +kernel
set_option maxRecDepth 20000 in
theorem ggX10_marsh_X10_here : GoodIn wsX10_marsh wsX10_here := goodIn_r _ [13, 1, 3, 14, 15, 16, 17, 18, 19, 20, 21, 22, 23, 24, 25, 26, 27, 28, 29, 30, 31, 32, 33, 34, 35, 36, 37, 38, 39, 40, 41, 42, 43, 44] (by decide +kernel) (by decide +kernel)
set_option maxRecDepth 20000 in
theorem gX10_marsh_X10_here : GoodIn wsX10_marsh (wsV RX10 133 RX10 yX10_here wsX10_here) := goodIn_app (goodIn_of _ (by decide +kernel)) ggX10_marsh_X10_here
theorem dX10_marsh_0 : decode cX10_marsh 0 = .ok (.aload_n 0, 1) := by decide +kernel
theorem dX10_marsh_1 : decode cX10_marsh 1 = .ok (.iconst 0, 1) := by decide +kernel
theorem dX10_marsh_2 : decode cX10_marsh 2 = .ok (.putfield 130, 3) := by decide +kernel
theorem dX10_marsh_5 : decode cX10_marsh 5 = .ok (.iconst 0, 1) := by decide +kernel
theorem dX10_marsh_6 : decode cX10_marsh 6 = .ok (.istore_n 1, 1) := by decide +kernel
theorem dX10_marsh_7 : decode cX10_marsh 7 = .ok (.lconst 0, 1) := by decide +kernel
theorem dX10_marsh_8 : decode cX10_marsh 8 = .ok (.lstore_n 2, 1) := by decide +kernel
theorem dX10_marsh_9 : decode cX10_marsh 9 = .ok (.iconst 0, 1) := by decide +kernel
theorem dX10_marsh_10 : decode cX10_marsh 10 = .ok (.istore 4, 2) := by decide +kernel
theorem dX10_marsh_12 : decode cX10_marsh 12 = .ok (.iconst 0, 1) := by decide +kernel
theorem dX10_marsh_13 : decode cX10_marsh 13 = .ok (.istore 5, 2) := by decide +kernel
theorem dX10_marsh_15 : decode cX10_marsh 15 = .ok (.iload 5, 2) := by decide +kernel
theorem dX10_marsh_17 : decode cX10_marsh 17 = .ok (.bipush 41, 2) := by decide +kernel
theorem dX10_marsh_19 : decode cX10_marsh 19 = .ok (.if_icmp .ge 152, 3) := by decide +kernel
theorem dX10_marsh_22 : decode cX10_marsh 22 = .ok (.iload_n 1, 1) := by decide +kernel
theorem dX10_marsh_23 : decode cX10_marsh 23 = .ok (.ifCond .ne 148, 3) := by decide +kernel
theorem dX10_marsh_26 : decode cX10_marsh 26 = .ok (.aload_n 0, 1) := by decide +kernel
theorem dX10_marsh_27 : decode cX10_marsh 27 = .ok (.invokevirtual 133, 3) := by decide +kernel
theorem dX10_marsh_30 : decode cX10_marsh 30 = .ok (.istore 6, 2) := by decide +kernel
theorem dX10_marsh_32 : decode cX10_marsh 32 = .ok (.iload 5, 2) := by decide +kernel
theorem dX10_marsh_34 : decode cX10_marsh 34 = .ok (.iload 5, 2) := by decide +kernel
theorem dX10_marsh_36 : decode cX10_marsh 36 = .ok (.bipush 7, 2) := by decide +kernel
theorem dX10_marsh_38 : decode cX10_marsh 38 = .ok (.idiv, 1) := by decide +kernel
theorem dX10_marsh_39 : decode cX10_marsh 39 = .ok (.isub, 1) := by decide +kernel
theorem dX10_marsh_40 : decode cX10_marsh 40 = .ok (.istore 7, 2) := by decide +kernel
theorem dX10_marsh_42 : decode cX10_marsh 42 = .ok (.iload 5, 2) := by decide +kernel
theorem dX10_marsh_44 : decode cX10_marsh 44 = .ok (.bipush 7, 2) := by decide +kernel
theorem dX10_marsh_46 : decode cX10_marsh 46 = .ok (.irem, 1) := by decide +kernel
theorem dX10_marsh_47 : decode cX10_marsh 47 = .ok (.bipush 6, 2) := by decide +kernel
theorem dX10_marsh_49 : decode cX10_marsh 49 = .ok (.if_icmp .ne 19, 3) := by decide +kernel
theorem dX10_marsh_52 : decode cX10_marsh 52 = .ok (.iload 6, 2) := by decide +kernel
theorem dX10_marsh_54 : decode cX10_marsh 54 = .ok (.bipush 47, 2) := by decide +kernel
theorem dX10_marsh_56 : decode cX10_marsh 56 = .ok (.if_icmp .eq 7, 3) := by decide +kernel
theorem dX10_marsh_59 : decode cX10_marsh 59 = .ok (.iconst 1, 1) := by decide +kernel
theorem dX10_marsh_60 : decode cX10_marsh 60 = .ok (.goto 4, 3) := by decide +kernel
theorem dX10_marsh_63 : decode cX10_marsh 63 = .ok (.iconst 0, 1) := by decide +kernel
theorem dX10_marsh_64 : decode cX10_marsh 64 = .ok (.istore_n 1, 1) := by decide +kernel
theorem dX10_marsh_65 : decode cX10_marsh 65 = .ok (.goto 82, 3) := by decide +kernel
theorem dX10_marsh_68 : decode cX10_marsh 68 = .ok (.iload 6, 2) := by decide +kernel
theorem dX10_marsh_70 : decode cX10_marsh 70 = .ok (.bipush 46, 2) := by decide +kernel
theorem dX10_marsh_72 : decode cX10_marsh 72 = .ok (.if_icmp .eq 28, 3) := by decide +kernel
theorem dX10_marsh_75 : decode cX10_marsh 75 = .ok (.iload 6, 2) := by decide +kernel
theorem dX10_marsh_77 : decode cX10_marsh 77 = .ok (.bipush 35, 2) := by decide +kernel
theorem dX10_marsh_79 : decode cX10_marsh 79 = .ok (.if_icmp .eq 21, 3) := by decide +kernel
theorem dX10_marsh_82 : decode cX10_marsh 82 = .ok (.iload 6, 2) := by decide +kernel
theorem dX10_marsh_84 : decode cX10_marsh 84 = .ok (.bipush 109, 2) := by decide +kernel
theorem dX10_marsh_86 : decode cX10_marsh 86 = .ok (.if_icmp .ne 10, 3) := by decide +kernel
theorem dX10_marsh_89 : decode cX10_marsh 89 = .ok (.iload 4, 2) := by decide +kernel
theorem dX10_marsh_91 : decode cX10_marsh 91 = .ok (.bipush 6, 2) := by decide +kernel
theorem dX10_marsh_93 : decode cX10_marsh 93 = .ok (.if_icmp .ne 7, 3) := by decide +kernel
theorem dX10_marsh_96 : decode cX10_marsh 96 = .ok (.iconst 1, 1) := by decide +kernel
theorem dX10_marsh_97 : decode cX10_marsh 97 = .ok (.goto 4, 3) := by decide +kernel
theorem dX10_marsh_100 : decode cX10_marsh 100 = .ok (.iconst 0, 1) := by decide +kernel
theorem dX10_marsh_101 : decode cX10_marsh 101 = .ok (.istore_n 1, 1) := by decide +kernel
theorem dX10_marsh_102 : decode cX10_marsh 102 = .ok (.lload_n 2, 1) := by decide +kernel
theorem dX10_marsh_103 : decode cX10_marsh 103 = .ok (.iload 6, 2) := by decide +kernel
theorem dX10_marsh_105 : decode cX10_marsh 105 = .ok (.bipush 35, 2) := by decide +kernel
theorem dX10_marsh_107 : decode cX10_marsh 107 = .ok (.if_icmp .ne 14, 3) := by decide +kernel
theorem dX10_marsh_110 : decode cX10_marsh 110 = .ok (.iload_n 1, 1) := by decide +kernel
theorem dX10_marsh_111 : decode cX10_marsh 111 = .ok (.ifCond .ne 10, 3) := by decide +kernel
theorem dX10_marsh_114 : decode cX10_marsh 114 = .ok (.lconst 1, 1) := by decide +kernel
theorem dX10_marsh_115 : decode cX10_marsh 115 = .ok (.iload 7, 2) := by decide +kernel
theorem dX10_marsh_117 : decode cX10_marsh 117 = .ok (.lshl, 1) := by decide +kernel
theorem dX10_marsh_118 : decode cX10_marsh 118 = .ok (.goto 4, 3) := by decide +kernel
theorem dX10_marsh_121 : decode cX10_marsh 121 = .ok (.lconst 0, 1) := by decide +kernel
theorem dX10_marsh_122 : decode cX10_marsh 122 = .ok (.lor, 1) := by decide +kernel
theorem dX10_marsh_123 : decode cX10_marsh 123 = .ok (.lstore_n 2, 1) := by decide +kernel
theorem dX10_marsh_124 : decode cX10_marsh 124 = .ok (.iload 6, 2) := by decide +kernel
theorem dX10_marsh_126 : decode cX10_marsh 126 = .ok (.bipush 109, 2) := by decide +kernel
theorem dX10_marsh_128 : decode cX10_marsh 128 = .ok (.if_icmp .ne 19, 3) := by decide +kernel
theorem dX10_marsh_131 : decode cX10_marsh 131 = .ok (.iload_n 1, 1) := by decide +kernel
theorem dX10_marsh_132 : decode cX10_marsh 132 = .ok (.ifCond .ne 15, 3) := by decide +kernel
theorem dX10_marsh_135 : decode cX10_marsh 135 = .ok (.aload_n 0, 1) := by decide +kernel
theorem dX10_marsh_136 : decode cX10_marsh 136 = .ok (.getfield 31, 3) := by decide +kernel
theorem dX10_marsh_139 : decode cX10_marsh 139 = .ok (.iload 4, 2) := by decide +kernel
theorem dX10_marsh_141 : decode cX10_marsh 141 = .ok (.iload 7, 2) := by decide +kernel
theorem dX10_marsh_143 : decode cX10_marsh 143 = .ok (.iastore, 1) := by decide +kernel
theorem dX10_marsh_144 : decode cX10_marsh 144 = .ok (.iinc 4 1, 3) := by decide +kernel
theorem dX10_marsh_147 : decode cX10_marsh 147 = .ok (.aload_n 0, 1) := by decide +kernel
theorem dX10_marsh_148 : decode cX10_marsh 148 = .ok (.dup, 1) := by decide +kernel
theorem dX10_marsh_149 : decode cX10_marsh 149 = .ok (.getfield 130, 3) := by decide +kernel
theorem dX10_marsh_152 : decode cX10_marsh 152 = .ok (.iload_n 1, 1) := by decide +kernel
theorem dX10_marsh_153 : decode cX10_marsh 153 = .ok (.ifCond .eq 7, 3) := by decide +kernel
theorem dX10_marsh_156 : decode cX10_marsh 156 = .ok (.iconst 0, 1) := by decide +kernel
theorem dX10_marsh_157 : decode cX10_marsh 157 = .ok (.goto 4, 3) := by decide +kernel
theorem dX10_marsh_160 : decode cX10_marsh 160 = .ok (.iconst 1, 1) := by decide +kernel
theorem dX10_marsh_161 : decode cX10_marsh 161 = .ok (.iadd, 1) := by decide +kernel
theorem dX10_marsh_162 : decode cX10_marsh 162 = .ok (.putfield 130, 3) := by decide +kernel
theorem dX10_marsh_165 : decode cX10_marsh 165 = .ok (.iinc 5 1, 3) := by decide +kernel
theorem dX10_marsh_168 : decode cX10_marsh 168 = .ok (.goto (-153), 3) := by decide +kernel
theorem dX10_marsh_171 : decode cX10_marsh 171 = .ok (.iload_n 1, 1) := by decide +kernel
theorem dX10_marsh_172 : decode cX10_marsh 172 = .ok (.ifCond .ne 10, 3) := by decide +kernel
theorem dX10_marsh_175 : decode cX10_marsh 175 = .ok (.aload_n 0, 1) := by decide +kernel
theorem dX10_marsh_176 : decode cX10_marsh 176 = .ok (.invokevirtual 133, 3) := by decide +kernel
theorem dX10_marsh_179 : decode cX10_marsh 179 = .ok (.ifCond .eq 7, 3) := by decide +kernel
theorem dX10_marsh_182 : decode cX10_marsh 182 = .ok (.iconst 1, 1) := by decide +kernel
theorem dX10_marsh_183 : decode cX10_marsh 183 = .ok (.goto 4, 3) := by decide +kernel
theorem dX10_marsh_186 : decode cX10_marsh 186 = .ok (.iconst 0, 1) := by decide +kernel
theorem dX10_marsh_187 : decode cX10_marsh 187 = .ok (.istore_n 1, 1) := by decide +kernel
theorem dX10_marsh_188 : decode cX10_marsh 188 = .ok (.aload_n 0, 1) := by decide +kernel
theorem dX10_marsh_189 : decode cX10_marsh 189 = .ok (.iconst 0, 1) := by decide +kernel
theorem dX10_marsh_190 : decode cX10_marsh 190 = .ok (.putfield 127, 3) := by decide +kernel
theorem dX10_marsh_193 : decode cX10_marsh 193 = .ok (.iload_n 1, 1) := by decide +kernel
theorem dX10_marsh_194 : decode cX10_marsh 194 = .ok (.ifCond .eq 11, 3) := by decide +kernel
theorem dX10_marsh_197 : decode cX10_marsh 197 = .ok (.bipush (-20), 2) := by decide +kernel
theorem dX10_marsh_199 : decode cX10_marsh 199 = .ok (.aload_n 0, 1) := by decide +kernel
theorem dX10_marsh_200 : decode cX10_marsh 200 = .ok (.getfield 130, 3) := by decide +kernel
theorem dX10_marsh_203 : decode cX10_marsh 203 = .ok (.isub, 1) := by decide +kernel
theorem dX10_marsh_204 : decode cX10_marsh 204 = .ok (.ireturn, 1) := by decide +kernel
theorem dX10_marsh_205 : decode cX10_marsh 205 = .ok (.aload_n 0, 1) := by decide +kernel
theorem dX10_marsh_206 : decode cX10_marsh 206 = .ok (.lload_n 2, 1) := by decide +kernel
theorem dX10_marsh_207 : decode cX10_marsh 207 = .ok (.putfield 76, 3) := by decide +kernel
theorem dX10_marsh_210 : decode cX10_marsh 210 = .ok (.aload_n 0, 1) := by decide +kernel
theorem dX10_marsh_211 : decode cX10_marsh 211 = .ok (.iload 4, 2) := by decide +kernel
theorem dX10_marsh_213 : decode cX10_marsh 213 = .ok (.putfield 65, 3) := by decide +kernel
theorem dX10_marsh_216 : decode cX10_marsh 216 = .ok (.iconst 0, 1) := by decide +kernel
theorem dX10_marsh_217 : decode cX10_marsh 217 = .ok (.istore 5, 2) := by decide +kernel
theorem dX10_marsh_219 : decode cX10_marsh 219 = .ok (.iload 5, 2) := by decide +kernel
theorem dX10_marsh_221 : decode cX10_marsh 221 = .ok (.iload 4, 2) := by decide +kernel
theorem dX10_marsh_223 : decode cX10_marsh 223 = .ok (.if_icmp .ge 23, 3) := by decide +kernel
theorem dX10_marsh_226 : decode cX10_marsh 226 = .ok (.aload_n 0, 1) := by decide +kernel
theorem dX10_marsh_227 : decode cX10_marsh 227 = .ok (.getfield 7, 3) := by decide +kernel
theorem dX10_marsh_230 : decode cX10_marsh 230 = .ok (.iload 5, 2) := by decide +kernel
theorem dX10_marsh_232 : decode cX10_marsh 232 = .ok (.aload_n 0, 1) := by decide +kernel
theorem dX10_marsh_233 : decode cX10_marsh 233 = .ok (.getfield 31, 3) := by decide +kernel
theorem dX10_marsh_236 : decode cX10_marsh 236 = .ok (.iload 5, 2) := by decide +kernel
theorem dX10_marsh_238 : decode cX10_marsh 238 = .ok (.iaload, 1) := by decide +kernel
theorem dX10_marsh_239 : decode cX10_marsh 239 = .ok (.iastore, 1) := by decide +kernel
theorem dX10_marsh_240 : decode cX10_marsh 240 = .ok (.iinc 5 1, 3) := by decide +kernel
theorem dX10_marsh_243 : decode cX10_marsh 243 = .ok (.goto (-24), 3) := by decide +kernel
theorem dX10_marsh_246 : decode cX10_marsh 246 = .ok (.iconst 0, 1) := by decide +kernel
theorem dX10_marsh_247 : decode cX10_marsh 247 = .ok (.istore 5, 2) := by decide +kernel
theorem dX10_marsh_249 : decode cX10_marsh 249 = .ok (.iload 5, 2) := by decide +kernel
theorem dX10_marsh_251 : decode cX10_marsh 251 = .ok (.aload_n 0, 1) := by decide +kernel
theorem dX10_marsh_252 : decode cX10_marsh 252 = .ok (.getfield 69, 3) := by decide +kernel
theorem dX10_marsh_255 : decode cX10_marsh 255 = .ok (.if_icmp .ge 17, 3) := by decide +kernel
theorem dX10_marsh_258 : decode cX10_marsh 258 = .ok (.aload_n 0, 1) := by decide +kernel
theorem dX10_marsh_259 : decode cX10_marsh 259 = .ok (.getfield 19, 3) := by decide +kernel
theorem dX10_marsh_262 : decode cX10_marsh 262 = .ok (.iload 5, 2) := by decide +kernel
theorem dX10_marsh_264 : decode cX10_marsh 264 = .ok (.iconst 0, 1) := by decide +kernel
theorem dX10_marsh_265 : decode cX10_marsh 265 = .ok (.iastore, 1) := by decide +kernel
theorem dX10_marsh_266 : decode cX10_marsh 266 = .ok (.iinc 5 1, 3) := by decide +kernel
theorem dX10_marsh_269 : decode cX10_marsh 269 = .ok (.goto (-20), 3) := by decide +kernel
theorem dX10_marsh_272 : decode cX10_marsh 272 = .ok (.iload 4, 2) := by decide +kernel
theorem dX10_marsh_274 : decode cX10_marsh 274 = .ok (.ireturn, 1) := by decide +kernel
set_option maxRecDepth 20000 in
theorem ggX10_moss_X10_isTuft : GoodIn wsX10_moss wsX10_isTuft := goodIn_r _ [6, 7, 8, 9, 5, 10, 11, 12, 13, 14, 15, 16, 17, 18, 19, 20, 21, 22, 23, 24, 25, 26, 27, 28, 29, 30, 31, 32, 33, 34, 35, 36, 37, 38, 39, 40] (by decide +kernel) (by decide +kernel)
set_option maxRecDepth 20000 in
theorem gX10_moss_X10_isTuft : GoodIn wsX10_moss (wsV RX10 86 RX10 yX10_isTuft wsX10_isTuft) := goodIn_app (goodIn_of _ (by decide +kernel)) ggX10_moss_X10_isTuft
theorem dX10_moss_0 : decode cX10_moss 0 = .ok (.aload_n 0, 1) := by decide +kernel
theorem dX10_moss_1 : decode cX10_moss 1 = .ok (.iload_n 1, 1) := by decide +kernel
theorem dX10_moss_2 : decode cX10_moss 2 = .ok (.invokevirtual 86, 3) := by decide +kernel
theorem dX10_moss_5 : decode cX10_moss 5 = .ok (.ifCond .eq 12, 3) := by decide +kernel
theorem dX10_moss_8 : decode cX10_moss 8 = .ok (.aload_n 0, 1) := by decide +kernel
theorem dX10_moss_9 : decode cX10_moss 9 = .ok (.getfield 7, 3) := by decide +kernel
theorem dX10_moss_12 : decode cX10_moss 12 = .ok (.iload_n 1, 1) := by decide +kernel
theorem dX10_moss_13 : decode cX10_moss 13 = .ok (.iaload, 1) := by decide +kernel
theorem dX10_moss_14 : decode cX10_moss 14 = .ok (.goto 4, 3) := by decide +kernel
theorem dX10_moss_17 : decode cX10_moss 17 = .ok (.iconst (-1), 1) := by decide +kernel
theorem dX10_moss_18 : decode cX10_moss 18 = .ok (.ireturn, 1) := by decide +kernel
set_option maxRecDepth 20000 in
theorem ggX10_pulls_X10_apart : GoodIn wsX10_pulls wsX10_apart := goodIn_r _ [6] (by decide +kernel) (by decide +kernel)
set_option maxRecDepth 20000 in
theorem gX10_pulls_X10_apart : GoodIn wsX10_pulls (va_wsS RX10 137 yX10_apart wsX10_apart) := goodIn_app (goodIn_of _ (by decide +kernel)) ggX10_pulls_X10_apart
theorem dX10_pulls_0 : decode cX10_pulls 0 = .ok (.aload_n 0, 1) := by decide +kernel
theorem dX10_pulls_1 : decode cX10_pulls 1 = .ok (.getfield 25, 3) := by decide +kernel
theorem dX10_pulls_4 : decode cX10_pulls 4 = .ok (.iload_n 1, 1) := by decide +kernel
theorem dX10_pulls_5 : decode cX10_pulls 5 = .ok (.iaload, 1) := by decide +kernel
theorem dX10_pulls_6 : decode cX10_pulls 6 = .ok (.iconst 3, 1) := by decide +kernel
theorem dX10_pulls_7 : decode cX10_pulls 7 = .ok (.iload_n 1, 1) := by decide +kernel
theorem dX10_pulls_8 : decode cX10_pulls 8 = .ok (.aload_n 0, 1) := by decide +kernel
theorem dX10_pulls_9 : decode cX10_pulls 9 = .ok (.getfield 7, 3) := by decide +kernel
theorem dX10_pulls_12 : decode cX10_pulls 12 = .ok (.iload_n 2, 1) := by decide +kernel
theorem dX10_pulls_13 : decode cX10_pulls 13 = .ok (.iaload, 1) := by decide +kernel
theorem dX10_pulls_14 : decode cX10_pulls 14 = .ok (.invokestatic 137, 3) := by decide +kernel
theorem dX10_pulls_17 : decode cX10_pulls 17 = .ok (.imul, 1) := by decide +kernel
theorem dX10_pulls_18 : decode cX10_pulls 18 = .ok (.isub, 1) := by decide +kernel
theorem dX10_pulls_19 : decode cX10_pulls 19 = .ok (.ireturn, 1) := by decide +kernel
set_option maxRecDepth 20000 in
theorem ggX10_pull_X10_isCell : GoodIn wsX10_pull wsX10_isCell := goodIn_r _ [5, 6, 7, 8, 4, 9] (by decide +kernel) (by decide +kernel)
set_option maxRecDepth 20000 in
theorem gX10_pull_X10_isCell : GoodIn wsX10_pull (va_wsS RX10 72 yX10_isCell wsX10_isCell) := goodIn_app (goodIn_of _ (by decide +kernel)) ggX10_pull_X10_isCell
set_option maxRecDepth 20000 in
theorem ggX10_pull_X10_isTuft : GoodIn wsX10_pull wsX10_isTuft := goodIn_r _ [13, 14, 7, 8, 4, 9, 39, 40, 41, 42, 43, 44, 45, 46, 47, 48, 49, 50, 51, 52, 53, 54, 55, 56, 57, 58, 59, 60, 61, 62, 63, 64, 65, 66, 67, 68] (by decide +kernel) (by decide +kernel)
set_option maxRecDepth 20000 in
theorem gX10_pull_X10_isTuft : GoodIn wsX10_pull (wsV RX10 86 RX10 yX10_isTuft wsX10_isTuft) := goodIn_app (goodIn_of _ (by decide +kernel)) ggX10_pull_X10_isTuft
set_option maxRecDepth 20000 in
theorem ggX10_pull_X10_sitsAll : GoodIn wsX10_pull wsX10_sitsAll := goodIn_r _ [18, 1, 19, 20, 21, 22, 23, 24, 25, 4, 26, 27, 39, 40, 41, 42, 43, 44, 45, 46, 47, 48, 49, 50, 51, 52, 53, 54, 55, 56, 57, 58, 59, 60, 61, 62, 63, 64, 65, 66, 67, 68] (by decide +kernel) (by decide +kernel)
set_option maxRecDepth 20000 in
theorem gX10_pull_X10_sitsAll : GoodIn wsX10_pull (wsV RX10 104 RX10 yX10_sitsAll wsX10_sitsAll) := goodIn_app (goodIn_of _ (by decide +kernel)) ggX10_pull_X10_sitsAll
set_option maxRecDepth 20000 in
theorem ggX10_pull_X10_has : GoodIn wsX10_pull wsX10_has := goodIn_r _ [30] (by decide +kernel) (by decide +kernel)
set_option maxRecDepth 20000 in
theorem gX10_pull_X10_has : GoodIn wsX10_pull (va_wsS RX10 80 yX10_has wsX10_has) := goodIn_app (goodIn_of _ (by decide +kernel)) ggX10_pull_X10_has
set_option maxRecDepth 20000 in
theorem ggX10_pull_X10_pulls : GoodIn wsX10_pull wsX10_pulls := goodIn_r _ [34, 20, 35, 36, 37, 4, 38, 39, 40, 41, 42, 43, 44, 45, 46, 47, 48, 49, 50, 51, 52, 53, 54, 55, 56, 57, 58, 59, 60, 61, 62, 63, 64, 65, 66, 67, 68] (by decide +kernel) (by decide +kernel)
set_option maxRecDepth 20000 in
theorem gX10_pull_X10_pulls : GoodIn wsX10_pull (wsV RX10 141 RX10 yX10_pulls wsX10_pulls) := goodIn_app (goodIn_of _ (by decide +kernel)) ggX10_pull_X10_pulls
theorem dX10_pull_0 : decode cX10_pull 0 = .ok (.iload_n 1, 1) := by decide +kernel
theorem dX10_pull_1 : decode cX10_pull 1 = .ok (.i2l, 1) := by decide +kernel
theorem dX10_pull_2 : decode cX10_pull 2 = .ok (.invokestatic 72, 3) := by decide +kernel
theorem dX10_pull_5 : decode cX10_pull 5 = .ok (.ifCond .eq 11, 3) := by decide +kernel
theorem dX10_pull_8 : decode cX10_pull 8 = .ok (.aload_n 0, 1) := by decide +kernel
theorem dX10_pull_9 : decode cX10_pull 9 = .ok (.iload_n 2, 1) := by decide +kernel
theorem dX10_pull_10 : decode cX10_pull 10 = .ok (.invokevirtual 86, 3) := by decide +kernel
theorem dX10_pull_13 : decode cX10_pull 13 = .ok (.ifCond .ne 7, 3) := by decide +kernel
theorem dX10_pull_16 : decode cX10_pull 16 = .ok (.sipush (-1001), 3) := by decide +kernel
theorem dX10_pull_19 : decode cX10_pull 19 = .ok (.ireturn, 1) := by decide +kernel
theorem dX10_pull_20 : decode cX10_pull 20 = .ok (.aload_n 0, 1) := by decide +kernel
theorem dX10_pull_21 : decode cX10_pull 21 = .ok (.invokevirtual 104, 3) := by decide +kernel
theorem dX10_pull_24 : decode cX10_pull 24 = .ok (.aload_n 0, 1) := by decide +kernel
theorem dX10_pull_25 : decode cX10_pull 25 = .ok (.getfield 97, 3) := by decide +kernel
theorem dX10_pull_28 : decode cX10_pull 28 = .ok (.iload_n 1, 1) := by decide +kernel
theorem dX10_pull_29 : decode cX10_pull 29 = .ok (.invokestatic 80, 3) := by decide +kernel
theorem dX10_pull_32 : decode cX10_pull 32 = .ok (.ifCond .eq 12, 3) := by decide +kernel
theorem dX10_pull_35 : decode cX10_pull 35 = .ok (.aload_n 0, 1) := by decide +kernel
theorem dX10_pull_36 : decode cX10_pull 36 = .ok (.iload_n 1, 1) := by decide +kernel
theorem dX10_pull_37 : decode cX10_pull 37 = .ok (.iload_n 2, 1) := by decide +kernel
theorem dX10_pull_38 : decode cX10_pull 38 = .ok (.invokevirtual 141, 3) := by decide +kernel
theorem dX10_pull_41 : decode cX10_pull 41 = .ok (.goto 6, 3) := by decide +kernel
theorem dX10_pull_44 : decode cX10_pull 44 = .ok (.sipush (-1002), 3) := by decide +kernel
theorem dX10_pull_47 : decode cX10_pull 47 = .ok (.ireturn, 1) := by decide +kernel
set_option maxRecDepth 20000 in
theorem ggX10_lays_X10_sitsAll : GoodIn wsX10_lays wsX10_sitsAll := goodIn_r _ [17, 2, 8, 18, 11, 10, 19, 20, 21, 16, 22, 9, 36, 37, 38, 39, 40, 41, 42, 43, 44, 45, 46, 47, 48, 49, 50, 51, 52, 53, 54, 55, 56, 57, 58, 59, 60, 61, 62, 63, 64, 65] (by decide +kernel) (by decide +kernel)
set_option maxRecDepth 20000 in
theorem gX10_lays_X10_sitsAll : GoodIn wsX10_lays (wsV RX10 104 RX10 yX10_sitsAll wsX10_sitsAll) := goodIn_app (goodIn_of _ (by decide +kernel)) ggX10_lays_X10_sitsAll
set_option maxRecDepth 20000 in
theorem ggX10_lays_X10_has : GoodIn wsX10_lays wsX10_has := goodIn_r _ [25] (by decide +kernel) (by decide +kernel)
set_option maxRecDepth 20000 in
theorem gX10_lays_X10_has : GoodIn wsX10_lays (va_wsS RX10 80 yX10_has wsX10_has) := goodIn_app (goodIn_of _ (by decide +kernel)) ggX10_lays_X10_has
set_option maxRecDepth 20000 in
theorem ggX10_lays_X10_pulls : GoodIn wsX10_lays wsX10_pulls := goodIn_r _ [29, 18, 3, 30, 31, 16, 32, 36, 37, 38, 39, 40, 41, 42, 43, 44, 45, 46, 47, 48, 49, 50, 51, 52, 53, 54, 55, 56, 57, 58, 59, 60, 61, 62, 63, 64, 65] (by decide +kernel) (by decide +kernel)
set_option maxRecDepth 20000 in
theorem gX10_lays_X10_pulls : GoodIn wsX10_lays (wsV RX10 141 RX10 yX10_pulls wsX10_pulls) := goodIn_app (goodIn_of _ (by decide +kernel)) ggX10_lays_X10_pulls
set_option maxRecDepth 20000 in
theorem ggX10_lays_X10_nearer : GoodIn wsX10_lays wsX10_nearer := goodIn_r _ [35] (by decide +kernel) (by decide +kernel)
set_option maxRecDepth 20000 in
theorem gX10_lays_X10_nearer : GoodIn wsX10_lays (va_wsS RX10 144 yX10_nearer wsX10_nearer) := goodIn_app (goodIn_of _ (by decide +kernel)) ggX10_lays_X10_nearer
theorem dX10_lays_0 : decode cX10_lays 0 = .ok (.aload_n 0, 1) := by decide +kernel
theorem dX10_lays_1 : decode cX10_lays 1 = .ok (.invokevirtual 104, 3) := by decide +kernel
theorem dX10_lays_4 : decode cX10_lays 4 = .ok (.iconst 0, 1) := by decide +kernel
theorem dX10_lays_5 : decode cX10_lays 5 = .ok (.istore_n 1, 1) := by decide +kernel
theorem dX10_lays_6 : decode cX10_lays 6 = .ok (.iconst 0, 1) := by decide +kernel
theorem dX10_lays_7 : decode cX10_lays 7 = .ok (.istore_n 2, 1) := by decide +kernel
theorem dX10_lays_8 : decode cX10_lays 8 = .ok (.iload_n 2, 1) := by decide +kernel
theorem dX10_lays_9 : decode cX10_lays 9 = .ok (.aload_n 0, 1) := by decide +kernel
theorem dX10_lays_10 : decode cX10_lays 10 = .ok (.getfield 65, 3) := by decide +kernel
theorem dX10_lays_13 : decode cX10_lays 13 = .ok (.if_icmp .ge 189, 3) := by decide +kernel
theorem dX10_lays_16 : decode cX10_lays 16 = .ok (.iconst 0, 1) := by decide +kernel
theorem dX10_lays_17 : decode cX10_lays 17 = .ok (.istore_n 3, 1) := by decide +kernel
theorem dX10_lays_18 : decode cX10_lays 18 = .ok (.iconst (-1), 1) := by decide +kernel
theorem dX10_lays_19 : decode cX10_lays 19 = .ok (.istore 4, 2) := by decide +kernel
theorem dX10_lays_21 : decode cX10_lays 21 = .ok (.iconst 0, 1) := by decide +kernel
theorem dX10_lays_22 : decode cX10_lays 22 = .ok (.istore 5, 2) := by decide +kernel
theorem dX10_lays_24 : decode cX10_lays 24 = .ok (.iconst 0, 1) := by decide +kernel
theorem dX10_lays_25 : decode cX10_lays 25 = .ok (.istore 6, 2) := by decide +kernel
theorem dX10_lays_27 : decode cX10_lays 27 = .ok (.iload 6, 2) := by decide +kernel
theorem dX10_lays_29 : decode cX10_lays 29 = .ok (.bipush 36, 2) := by decide +kernel
theorem dX10_lays_31 : decode cX10_lays 31 = .ok (.if_icmp .ge 86, 3) := by decide +kernel
theorem dX10_lays_34 : decode cX10_lays 34 = .ok (.aload_n 0, 1) := by decide +kernel
theorem dX10_lays_35 : decode cX10_lays 35 = .ok (.getfield 97, 3) := by decide +kernel
theorem dX10_lays_38 : decode cX10_lays 38 = .ok (.iload 6, 2) := by decide +kernel
theorem dX10_lays_40 : decode cX10_lays 40 = .ok (.invokestatic 80, 3) := by decide +kernel
theorem dX10_lays_43 : decode cX10_lays 43 = .ok (.ifCond .eq 68, 3) := by decide +kernel
theorem dX10_lays_46 : decode cX10_lays 46 = .ok (.aload_n 0, 1) := by decide +kernel
theorem dX10_lays_47 : decode cX10_lays 47 = .ok (.iload 6, 2) := by decide +kernel
theorem dX10_lays_49 : decode cX10_lays 49 = .ok (.iload_n 2, 1) := by decide +kernel
theorem dX10_lays_50 : decode cX10_lays 50 = .ok (.invokevirtual 141, 3) := by decide +kernel
theorem dX10_lays_53 : decode cX10_lays 53 = .ok (.istore 7, 2) := by decide +kernel
theorem dX10_lays_55 : decode cX10_lays 55 = .ok (.iload 7, 2) := by decide +kernel
theorem dX10_lays_57 : decode cX10_lays 57 = .ok (.iload_n 3, 1) := by decide +kernel
theorem dX10_lays_58 : decode cX10_lays 58 = .ok (.if_icmp .le 7, 3) := by decide +kernel
theorem dX10_lays_61 : decode cX10_lays 61 = .ok (.iconst 0, 1) := by decide +kernel
theorem dX10_lays_62 : decode cX10_lays 62 = .ok (.goto 19, 3) := by decide +kernel
theorem dX10_lays_65 : decode cX10_lays 65 = .ok (.iload 7, 2) := by decide +kernel
theorem dX10_lays_67 : decode cX10_lays 67 = .ok (.iload_n 3, 1) := by decide +kernel
theorem dX10_lays_68 : decode cX10_lays 68 = .ok (.if_icmp .eq 8, 3) := by decide +kernel
theorem dX10_lays_71 : decode cX10_lays 71 = .ok (.iload 5, 2) := by decide +kernel
theorem dX10_lays_73 : decode cX10_lays 73 = .ok (.ifCond .eq 7, 3) := by decide +kernel
theorem dX10_lays_76 : decode cX10_lays 76 = .ok (.iconst 1, 1) := by decide +kernel
theorem dX10_lays_77 : decode cX10_lays 77 = .ok (.goto 4, 3) := by decide +kernel
theorem dX10_lays_80 : decode cX10_lays 80 = .ok (.iconst 0, 1) := by decide +kernel
theorem dX10_lays_81 : decode cX10_lays 81 = .ok (.istore 5, 2) := by decide +kernel
theorem dX10_lays_83 : decode cX10_lays 83 = .ok (.iload 7, 2) := by decide +kernel
theorem dX10_lays_85 : decode cX10_lays 85 = .ok (.iload_n 3, 1) := by decide +kernel
theorem dX10_lays_86 : decode cX10_lays 86 = .ok (.if_icmp .le 8, 3) := by decide +kernel
theorem dX10_lays_89 : decode cX10_lays 89 = .ok (.iload 6, 2) := by decide +kernel
theorem dX10_lays_91 : decode cX10_lays 91 = .ok (.goto 5, 3) := by decide +kernel
theorem dX10_lays_94 : decode cX10_lays 94 = .ok (.iload 4, 2) := by decide +kernel
theorem dX10_lays_96 : decode cX10_lays 96 = .ok (.istore 4, 2) := by decide +kernel
theorem dX10_lays_98 : decode cX10_lays 98 = .ok (.iload 7, 2) := by decide +kernel
theorem dX10_lays_100 : decode cX10_lays 100 = .ok (.iload_n 3, 1) := by decide +kernel
theorem dX10_lays_101 : decode cX10_lays 101 = .ok (.if_icmp .le 8, 3) := by decide +kernel
theorem dX10_lays_104 : decode cX10_lays 104 = .ok (.iload 7, 2) := by decide +kernel
theorem dX10_lays_106 : decode cX10_lays 106 = .ok (.goto 4, 3) := by decide +kernel
theorem dX10_lays_109 : decode cX10_lays 109 = .ok (.iload_n 3, 1) := by decide +kernel
theorem dX10_lays_110 : decode cX10_lays 110 = .ok (.istore_n 3, 1) := by decide +kernel
theorem dX10_lays_111 : decode cX10_lays 111 = .ok (.iinc 6 1, 3) := by decide +kernel
theorem dX10_lays_114 : decode cX10_lays 114 = .ok (.goto (-87), 3) := by decide +kernel
theorem dX10_lays_117 : decode cX10_lays 117 = .ok (.iload 4, 2) := by decide +kernel
theorem dX10_lays_119 : decode cX10_lays 119 = .ok (.ifCond .lt 30, 3) := by decide +kernel
theorem dX10_lays_122 : decode cX10_lays 122 = .ok (.iload 5, 2) := by decide +kernel
theorem dX10_lays_124 : decode cX10_lays 124 = .ok (.ifCond .ne 25, 3) := by decide +kernel
theorem dX10_lays_127 : decode cX10_lays 127 = .ok (.iload 4, 2) := by decide +kernel
theorem dX10_lays_129 : decode cX10_lays 129 = .ok (.aload_n 0, 1) := by decide +kernel
theorem dX10_lays_130 : decode cX10_lays 130 = .ok (.getfield 7, 3) := by decide +kernel
theorem dX10_lays_133 : decode cX10_lays 133 = .ok (.iload_n 2, 1) := by decide +kernel
theorem dX10_lays_134 : decode cX10_lays 134 = .ok (.iaload, 1) := by decide +kernel
theorem dX10_lays_135 : decode cX10_lays 135 = .ok (.if_icmp .eq 14, 3) := by decide +kernel
theorem dX10_lays_138 : decode cX10_lays 138 = .ok (.aload_n 0, 1) := by decide +kernel
theorem dX10_lays_139 : decode cX10_lays 139 = .ok (.getfield 107, 3) := by decide +kernel
theorem dX10_lays_142 : decode cX10_lays 142 = .ok (.ifCond .ne 7, 3) := by decide +kernel
theorem dX10_lays_145 : decode cX10_lays 145 = .ok (.iconst 1, 1) := by decide +kernel
theorem dX10_lays_146 : decode cX10_lays 146 = .ok (.goto 4, 3) := by decide +kernel
theorem dX10_lays_149 : decode cX10_lays 149 = .ok (.iconst 0, 1) := by decide +kernel
theorem dX10_lays_150 : decode cX10_lays 150 = .ok (.istore 6, 2) := by decide +kernel
theorem dX10_lays_152 : decode cX10_lays 152 = .ok (.aload_n 0, 1) := by decide +kernel
theorem dX10_lays_153 : decode cX10_lays 153 = .ok (.getfield 34, 3) := by decide +kernel
theorem dX10_lays_156 : decode cX10_lays 156 = .ok (.iload_n 2, 1) := by decide +kernel
theorem dX10_lays_157 : decode cX10_lays 157 = .ok (.iload 6, 2) := by decide +kernel
theorem dX10_lays_159 : decode cX10_lays 159 = .ok (.ifCond .eq 17, 3) := by decide +kernel
theorem dX10_lays_162 : decode cX10_lays 162 = .ok (.aload_n 0, 1) := by decide +kernel
theorem dX10_lays_163 : decode cX10_lays 163 = .ok (.getfield 7, 3) := by decide +kernel
theorem dX10_lays_166 : decode cX10_lays 166 = .ok (.iload_n 2, 1) := by decide +kernel
theorem dX10_lays_167 : decode cX10_lays 167 = .ok (.iaload, 1) := by decide +kernel
theorem dX10_lays_168 : decode cX10_lays 168 = .ok (.iload 4, 2) := by decide +kernel
theorem dX10_lays_170 : decode cX10_lays 170 = .ok (.invokestatic 144, 3) := by decide +kernel
theorem dX10_lays_173 : decode cX10_lays 173 = .ok (.goto 9, 3) := by decide +kernel
theorem dX10_lays_176 : decode cX10_lays 176 = .ok (.aload_n 0, 1) := by decide +kernel
theorem dX10_lays_177 : decode cX10_lays 177 = .ok (.getfield 7, 3) := by decide +kernel
theorem dX10_lays_180 : decode cX10_lays 180 = .ok (.iload_n 2, 1) := by decide +kernel
theorem dX10_lays_181 : decode cX10_lays 181 = .ok (.iaload, 1) := by decide +kernel
theorem dX10_lays_182 : decode cX10_lays 182 = .ok (.iastore, 1) := by decide +kernel
theorem dX10_lays_183 : decode cX10_lays 183 = .ok (.iload_n 1, 1) := by decide +kernel
theorem dX10_lays_184 : decode cX10_lays 184 = .ok (.iload 6, 2) := by decide +kernel
theorem dX10_lays_186 : decode cX10_lays 186 = .ok (.ifCond .eq 7, 3) := by decide +kernel
theorem dX10_lays_189 : decode cX10_lays 189 = .ok (.iconst 1, 1) := by decide +kernel
theorem dX10_lays_190 : decode cX10_lays 190 = .ok (.goto 4, 3) := by decide +kernel
theorem dX10_lays_193 : decode cX10_lays 193 = .ok (.iconst 0, 1) := by decide +kernel
theorem dX10_lays_194 : decode cX10_lays 194 = .ok (.iadd, 1) := by decide +kernel
theorem dX10_lays_195 : decode cX10_lays 195 = .ok (.istore_n 1, 1) := by decide +kernel
theorem dX10_lays_196 : decode cX10_lays 196 = .ok (.iinc 2 1, 3) := by decide +kernel
theorem dX10_lays_199 : decode cX10_lays 199 = .ok (.goto (-191), 3) := by decide +kernel
theorem dX10_lays_202 : decode cX10_lays 202 = .ok (.aload_n 0, 1) := by decide +kernel
theorem dX10_lays_203 : decode cX10_lays 203 = .ok (.aload_n 0, 1) := by decide +kernel
theorem dX10_lays_204 : decode cX10_lays 204 = .ok (.getfield 76, 3) := by decide +kernel
theorem dX10_lays_207 : decode cX10_lays 207 = .ok (.putfield 147, 3) := by decide +kernel
theorem dX10_lays_210 : decode cX10_lays 210 = .ok (.iconst 0, 1) := by decide +kernel
theorem dX10_lays_211 : decode cX10_lays 211 = .ok (.istore_n 2, 1) := by decide +kernel
theorem dX10_lays_212 : decode cX10_lays 212 = .ok (.iload_n 2, 1) := by decide +kernel
theorem dX10_lays_213 : decode cX10_lays 213 = .ok (.aload_n 0, 1) := by decide +kernel
theorem dX10_lays_214 : decode cX10_lays 214 = .ok (.getfield 69, 3) := by decide +kernel
theorem dX10_lays_217 : decode cX10_lays 217 = .ok (.if_icmp .ge 49, 3) := by decide +kernel
theorem dX10_lays_220 : decode cX10_lays 220 = .ok (.aload_n 0, 1) := by decide +kernel
theorem dX10_lays_221 : decode cX10_lays 221 = .ok (.dup, 1) := by decide +kernel
theorem dX10_lays_222 : decode cX10_lays 222 = .ok (.getfield 147, 3) := by decide +kernel
theorem dX10_lays_225 : decode cX10_lays 225 = .ok (.aload_n 0, 1) := by decide +kernel
theorem dX10_lays_226 : decode cX10_lays 226 = .ok (.getfield 13, 3) := by decide +kernel
theorem dX10_lays_229 : decode cX10_lays 229 = .ok (.iload_n 2, 1) := by decide +kernel
theorem dX10_lays_230 : decode cX10_lays 230 = .ok (.iaload, 1) := by decide +kernel
theorem dX10_lays_231 : decode cX10_lays 231 = .ok (.iconst 3, 1) := by decide +kernel
theorem dX10_lays_232 : decode cX10_lays 232 = .ok (.if_icmp .ne 23, 3) := by decide +kernel
theorem dX10_lays_235 : decode cX10_lays 235 = .ok (.aload_n 0, 1) := by decide +kernel
theorem dX10_lays_236 : decode cX10_lays 236 = .ok (.getfield 19, 3) := by decide +kernel
theorem dX10_lays_239 : decode cX10_lays 239 = .ok (.iload_n 2, 1) := by decide +kernel
theorem dX10_lays_240 : decode cX10_lays 240 = .ok (.iaload, 1) := by decide +kernel
theorem dX10_lays_241 : decode cX10_lays 241 = .ok (.ifCond .le 14, 3) := by decide +kernel
theorem dX10_lays_244 : decode cX10_lays 244 = .ok (.lconst 1, 1) := by decide +kernel
theorem dX10_lays_245 : decode cX10_lays 245 = .ok (.aload_n 0, 1) := by decide +kernel
theorem dX10_lays_246 : decode cX10_lays 246 = .ok (.getfield 16, 3) := by decide +kernel
theorem dX10_lays_249 : decode cX10_lays 249 = .ok (.iload_n 2, 1) := by decide +kernel
theorem dX10_lays_250 : decode cX10_lays 250 = .ok (.iaload, 1) := by decide +kernel
theorem dX10_lays_251 : decode cX10_lays 251 = .ok (.lshl, 1) := by decide +kernel
theorem dX10_lays_252 : decode cX10_lays 252 = .ok (.goto 4, 3) := by decide +kernel
theorem dX10_lays_255 : decode cX10_lays 255 = .ok (.lconst 0, 1) := by decide +kernel
theorem dX10_lays_256 : decode cX10_lays 256 = .ok (.lor, 1) := by decide +kernel
theorem dX10_lays_257 : decode cX10_lays 257 = .ok (.putfield 147, 3) := by decide +kernel
theorem dX10_lays_260 : decode cX10_lays 260 = .ok (.iinc 2 1, 3) := by decide +kernel
theorem dX10_lays_263 : decode cX10_lays 263 = .ok (.goto (-51), 3) := by decide +kernel
theorem dX10_lays_266 : decode cX10_lays 266 = .ok (.aload_n 0, 1) := by decide +kernel
theorem dX10_lays_267 : decode cX10_lays 267 = .ok (.aload_n 0, 1) := by decide +kernel
theorem dX10_lays_268 : decode cX10_lays 268 = .ok (.getfield 107, 3) := by decide +kernel
theorem dX10_lays_271 : decode cX10_lays 271 = .ok (.ifCond .le 12, 3) := by decide +kernel
theorem dX10_lays_274 : decode cX10_lays 274 = .ok (.aload_n 0, 1) := by decide +kernel
theorem dX10_lays_275 : decode cX10_lays 275 = .ok (.getfield 107, 3) := by decide +kernel
theorem dX10_lays_278 : decode cX10_lays 278 = .ok (.iconst 1, 1) := by decide +kernel
theorem dX10_lays_279 : decode cX10_lays 279 = .ok (.isub, 1) := by decide +kernel
theorem dX10_lays_280 : decode cX10_lays 280 = .ok (.goto 4, 3) := by decide +kernel
theorem dX10_lays_283 : decode cX10_lays 283 = .ok (.iconst 0, 1) := by decide +kernel
theorem dX10_lays_284 : decode cX10_lays 284 = .ok (.putfield 150, 3) := by decide +kernel
theorem dX10_lays_287 : decode cX10_lays 287 = .ok (.iload_n 1, 1) := by decide +kernel
theorem dX10_lays_288 : decode cX10_lays 288 = .ok (.ireturn, 1) := by decide +kernel
theorem dX10_nearer_0 : decode cX10_nearer 0 = .ok (.iload_n 0, 1) := by decide +kernel
theorem dX10_nearer_1 : decode cX10_nearer 1 = .ok (.bipush 6, 2) := by decide +kernel
theorem dX10_nearer_3 : decode cX10_nearer 3 = .ok (.idiv, 1) := by decide +kernel
theorem dX10_nearer_4 : decode cX10_nearer 4 = .ok (.iload_n 1, 1) := by decide +kernel
theorem dX10_nearer_5 : decode cX10_nearer 5 = .ok (.bipush 6, 2) := by decide +kernel
theorem dX10_nearer_7 : decode cX10_nearer 7 = .ok (.idiv, 1) := by decide +kernel
theorem dX10_nearer_8 : decode cX10_nearer 8 = .ok (.if_icmp .eq 20, 3) := by decide +kernel
theorem dX10_nearer_11 : decode cX10_nearer 11 = .ok (.iload_n 0, 1) := by decide +kernel
theorem dX10_nearer_12 : decode cX10_nearer 12 = .ok (.iload_n 1, 1) := by decide +kernel
theorem dX10_nearer_13 : decode cX10_nearer 13 = .ok (.if_icmp .le 10, 3) := by decide +kernel
theorem dX10_nearer_16 : decode cX10_nearer 16 = .ok (.iload_n 0, 1) := by decide +kernel
theorem dX10_nearer_17 : decode cX10_nearer 17 = .ok (.bipush 6, 2) := by decide +kernel
theorem dX10_nearer_19 : decode cX10_nearer 19 = .ok (.isub, 1) := by decide +kernel
theorem dX10_nearer_20 : decode cX10_nearer 20 = .ok (.goto 7, 3) := by decide +kernel
theorem dX10_nearer_23 : decode cX10_nearer 23 = .ok (.iload_n 0, 1) := by decide +kernel
theorem dX10_nearer_24 : decode cX10_nearer 24 = .ok (.bipush 6, 2) := by decide +kernel
theorem dX10_nearer_26 : decode cX10_nearer 26 = .ok (.iadd, 1) := by decide +kernel
theorem dX10_nearer_27 : decode cX10_nearer 27 = .ok (.ireturn, 1) := by decide +kernel
theorem dX10_nearer_28 : decode cX10_nearer 28 = .ok (.iload_n 0, 1) := by decide +kernel
theorem dX10_nearer_29 : decode cX10_nearer 29 = .ok (.iload_n 1, 1) := by decide +kernel
theorem dX10_nearer_30 : decode cX10_nearer 30 = .ok (.if_icmp .le 9, 3) := by decide +kernel
theorem dX10_nearer_33 : decode cX10_nearer 33 = .ok (.iload_n 0, 1) := by decide +kernel
theorem dX10_nearer_34 : decode cX10_nearer 34 = .ok (.iconst 1, 1) := by decide +kernel
theorem dX10_nearer_35 : decode cX10_nearer 35 = .ok (.isub, 1) := by decide +kernel
theorem dX10_nearer_36 : decode cX10_nearer 36 = .ok (.goto 6, 3) := by decide +kernel
theorem dX10_nearer_39 : decode cX10_nearer 39 = .ok (.iload_n 0, 1) := by decide +kernel
theorem dX10_nearer_40 : decode cX10_nearer 40 = .ok (.iconst 1, 1) := by decide +kernel
theorem dX10_nearer_41 : decode cX10_nearer 41 = .ok (.iadd, 1) := by decide +kernel
theorem dX10_nearer_42 : decode cX10_nearer 42 = .ok (.ireturn, 1) := by decide +kernel
set_option maxRecDepth 20000 in
theorem ggX10_year_X10_lays : GoodIn wsX10_year wsX10_lays := goodIn_r _ [17, 7, 18, 8, 12, 9, 5, 10, 2, 19, 4, 6, 11, 20, 21, 22, 16, 23, 24, 25, 26, 27, 28, 29, 30, 31, 32, 33, 34, 35, 36, 37, 38, 39, 40, 41, 42, 43, 44, 45, 46, 47, 48, 49, 50, 51, 52, 53, 54, 55, 56, 57, 58, 59, 60, 61, 62, 63, 64, 65, 66, 67, 68, 69, 70, 71] (by decide +kernel) (by decide +kernel)
set_option maxRecDepth 20000 in
theorem gX10_year_X10_lays : GoodIn wsX10_year (wsV RX10 153 RX10 yX10_lays wsX10_lays) := goodIn_app (goodIn_of _ (by decide +kernel)) ggX10_year_X10_lays
set_option maxRecDepth 20000 in
theorem ggX10_year_X10_has : GoodIn wsX10_year wsX10_has := goodIn_r _ [31] (by decide +kernel) (by decide +kernel)
set_option maxRecDepth 20000 in
theorem gX10_year_X10_has : GoodIn wsX10_year (va_wsS RX10 80 yX10_has wsX10_has) := goodIn_app (goodIn_of _ (by decide +kernel)) ggX10_year_X10_has
theorem dX10_year_0 : decode cX10_year 0 = .ok (.aload_n 0, 1) := by decide +kernel
theorem dX10_year_1 : decode cX10_year 1 = .ok (.getfield 116, 3) := by decide +kernel
theorem dX10_year_4 : decode cX10_year 4 = .ok (.sipush 9999, 3) := by decide +kernel
theorem dX10_year_7 : decode cX10_year 7 = .ok (.if_icmp .ne 6, 3) := by decide +kernel
theorem dX10_year_10 : decode cX10_year 10 = .ok (.bipush (-3), 2) := by decide +kernel
theorem dX10_year_12 : decode cX10_year 12 = .ok (.ireturn, 1) := by decide +kernel
theorem dX10_year_13 : decode cX10_year 13 = .ok (.aload_n 0, 1) := by decide +kernel
theorem dX10_year_14 : decode cX10_year 14 = .ok (.invokevirtual 153, 3) := by decide +kernel
theorem dX10_year_17 : decode cX10_year 17 = .ok (.istore_n 1, 1) := by decide +kernel
theorem dX10_year_18 : decode cX10_year 18 = .ok (.iconst 0, 1) := by decide +kernel
theorem dX10_year_19 : decode cX10_year 19 = .ok (.istore_n 2, 1) := by decide +kernel
theorem dX10_year_20 : decode cX10_year 20 = .ok (.iload_n 2, 1) := by decide +kernel
theorem dX10_year_21 : decode cX10_year 21 = .ok (.aload_n 0, 1) := by decide +kernel
theorem dX10_year_22 : decode cX10_year 22 = .ok (.getfield 69, 3) := by decide +kernel
theorem dX10_year_25 : decode cX10_year 25 = .ok (.if_icmp .ge 55, 3) := by decide +kernel
theorem dX10_year_28 : decode cX10_year 28 = .ok (.aload_n 0, 1) := by decide +kernel
theorem dX10_year_29 : decode cX10_year 29 = .ok (.getfield 22, 3) := by decide +kernel
theorem dX10_year_32 : decode cX10_year 32 = .ok (.iload_n 2, 1) := by decide +kernel
theorem dX10_year_33 : decode cX10_year 33 = .ok (.dup2, 1) := by decide +kernel
theorem dX10_year_34 : decode cX10_year 34 = .ok (.iaload, 1) := by decide +kernel
theorem dX10_year_35 : decode cX10_year 35 = .ok (.aload_n 0, 1) := by decide +kernel
theorem dX10_year_36 : decode cX10_year 36 = .ok (.getfield 19, 3) := by decide +kernel
theorem dX10_year_39 : decode cX10_year 39 = .ok (.iload_n 2, 1) := by decide +kernel
theorem dX10_year_40 : decode cX10_year 40 = .ok (.iaload, 1) := by decide +kernel
theorem dX10_year_41 : decode cX10_year 41 = .ok (.ifCond .le 23, 3) := by decide +kernel
theorem dX10_year_44 : decode cX10_year 44 = .ok (.aload_n 0, 1) := by decide +kernel
theorem dX10_year_45 : decode cX10_year 45 = .ok (.getfield 76, 3) := by decide +kernel
theorem dX10_year_48 : decode cX10_year 48 = .ok (.aload_n 0, 1) := by decide +kernel
theorem dX10_year_49 : decode cX10_year 49 = .ok (.getfield 16, 3) := by decide +kernel
theorem dX10_year_52 : decode cX10_year 52 = .ok (.iload_n 2, 1) := by decide +kernel
theorem dX10_year_53 : decode cX10_year 53 = .ok (.iaload, 1) := by decide +kernel
theorem dX10_year_54 : decode cX10_year 54 = .ok (.invokestatic 80, 3) := by decide +kernel
theorem dX10_year_57 : decode cX10_year 57 = .ok (.ifCond .ne 7, 3) := by decide +kernel
theorem dX10_year_60 : decode cX10_year 60 = .ok (.iconst 1, 1) := by decide +kernel
theorem dX10_year_61 : decode cX10_year 61 = .ok (.goto 4, 3) := by decide +kernel
theorem dX10_year_64 : decode cX10_year 64 = .ok (.iconst 0, 1) := by decide +kernel
theorem dX10_year_65 : decode cX10_year 65 = .ok (.iadd, 1) := by decide +kernel
theorem dX10_year_66 : decode cX10_year 66 = .ok (.iastore, 1) := by decide +kernel
theorem dX10_year_67 : decode cX10_year 67 = .ok (.aload_n 0, 1) := by decide +kernel
theorem dX10_year_68 : decode cX10_year 68 = .ok (.getfield 19, 3) := by decide +kernel
theorem dX10_year_71 : decode cX10_year 71 = .ok (.iload_n 2, 1) := by decide +kernel
theorem dX10_year_72 : decode cX10_year 72 = .ok (.iconst 0, 1) := by decide +kernel
theorem dX10_year_73 : decode cX10_year 73 = .ok (.iastore, 1) := by decide +kernel
theorem dX10_year_74 : decode cX10_year 74 = .ok (.iinc 2 1, 3) := by decide +kernel
theorem dX10_year_77 : decode cX10_year 77 = .ok (.goto (-57), 3) := by decide +kernel
theorem dX10_year_80 : decode cX10_year 80 = .ok (.iconst 0, 1) := by decide +kernel
theorem dX10_year_81 : decode cX10_year 81 = .ok (.istore_n 2, 1) := by decide +kernel
theorem dX10_year_82 : decode cX10_year 82 = .ok (.iload_n 2, 1) := by decide +kernel
theorem dX10_year_83 : decode cX10_year 83 = .ok (.aload_n 0, 1) := by decide +kernel
theorem dX10_year_84 : decode cX10_year 84 = .ok (.getfield 65, 3) := by decide +kernel
theorem dX10_year_87 : decode cX10_year 87 = .ok (.if_icmp .ge 21, 3) := by decide +kernel
theorem dX10_year_90 : decode cX10_year 90 = .ok (.aload_n 0, 1) := by decide +kernel
theorem dX10_year_91 : decode cX10_year 91 = .ok (.getfield 7, 3) := by decide +kernel
theorem dX10_year_94 : decode cX10_year 94 = .ok (.iload_n 2, 1) := by decide +kernel
theorem dX10_year_95 : decode cX10_year 95 = .ok (.aload_n 0, 1) := by decide +kernel
theorem dX10_year_96 : decode cX10_year 96 = .ok (.getfield 34, 3) := by decide +kernel
theorem dX10_year_99 : decode cX10_year 99 = .ok (.iload_n 2, 1) := by decide +kernel
theorem dX10_year_100 : decode cX10_year 100 = .ok (.iaload, 1) := by decide +kernel
theorem dX10_year_101 : decode cX10_year 101 = .ok (.iastore, 1) := by decide +kernel
theorem dX10_year_102 : decode cX10_year 102 = .ok (.iinc 2 1, 3) := by decide +kernel
theorem dX10_year_105 : decode cX10_year 105 = .ok (.goto (-23), 3) := by decide +kernel
theorem dX10_year_108 : decode cX10_year 108 = .ok (.aload_n 0, 1) := by decide +kernel
theorem dX10_year_109 : decode cX10_year 109 = .ok (.aload_n 0, 1) := by decide +kernel
theorem dX10_year_110 : decode cX10_year 110 = .ok (.getfield 147, 3) := by decide +kernel
theorem dX10_year_113 : decode cX10_year 113 = .ok (.putfield 76, 3) := by decide +kernel
theorem dX10_year_116 : decode cX10_year 116 = .ok (.aload_n 0, 1) := by decide +kernel
theorem dX10_year_117 : decode cX10_year 117 = .ok (.aload_n 0, 1) := by decide +kernel
theorem dX10_year_118 : decode cX10_year 118 = .ok (.getfield 150, 3) := by decide +kernel
theorem dX10_year_121 : decode cX10_year 121 = .ok (.putfield 107, 3) := by decide +kernel
theorem dX10_year_124 : decode cX10_year 124 = .ok (.aload_n 0, 1) := by decide +kernel
theorem dX10_year_125 : decode cX10_year 125 = .ok (.dup, 1) := by decide +kernel
theorem dX10_year_126 : decode cX10_year 126 = .ok (.getfield 116, 3) := by decide +kernel
theorem dX10_year_129 : decode cX10_year 129 = .ok (.iconst 1, 1) := by decide +kernel
theorem dX10_year_130 : decode cX10_year 130 = .ok (.iadd, 1) := by decide +kernel
theorem dX10_year_131 : decode cX10_year 131 = .ok (.putfield 116, 3) := by decide +kernel
theorem dX10_year_134 : decode cX10_year 134 = .ok (.iload_n 1, 1) := by decide +kernel
theorem dX10_year_135 : decode cX10_year 135 = .ok (.ireturn, 1) := by decide +kernel
theorem dX10_walks_0 : decode cX10_walks 0 = .ok (.lload_n 1, 1) := by decide +kernel
theorem dX10_walks_1 : decode cX10_walks 1 = .ok (.lstore 6, 2) := by decide +kernel
theorem dX10_walks_3 : decode cX10_walks 3 = .ok (.iconst 0, 1) := by decide +kernel
theorem dX10_walks_4 : decode cX10_walks 4 = .ok (.istore 8, 2) := by decide +kernel
theorem dX10_walks_6 : decode cX10_walks 6 = .ok (.iload 8, 2) := by decide +kernel
theorem dX10_walks_8 : decode cX10_walks 8 = .ok (.aload_n 0, 1) := by decide +kernel
theorem dX10_walks_9 : decode cX10_walks 9 = .ok (.getfield 65, 3) := by decide +kernel
theorem dX10_walks_12 : decode cX10_walks 12 = .ok (.if_icmp .ge 32, 3) := by decide +kernel
theorem dX10_walks_15 : decode cX10_walks 15 = .ok (.lload 6, 2) := by decide +kernel
theorem dX10_walks_17 : decode cX10_walks 17 = .ok (.iload 8, 2) := by decide +kernel
theorem dX10_walks_19 : decode cX10_walks 19 = .ok (.iload 5, 2) := by decide +kernel
theorem dX10_walks_21 : decode cX10_walks 21 = .ok (.if_icmp .ne 7, 3) := by decide +kernel
theorem dX10_walks_24 : decode cX10_walks 24 = .ok (.lconst 0, 1) := by decide +kernel
theorem dX10_walks_25 : decode cX10_walks 25 = .ok (.goto 10, 3) := by decide +kernel
theorem dX10_walks_28 : decode cX10_walks 28 = .ok (.lconst 1, 1) := by decide +kernel
theorem dX10_walks_29 : decode cX10_walks 29 = .ok (.aload 4, 2) := by decide +kernel
theorem dX10_walks_31 : decode cX10_walks 31 = .ok (.iload 8, 2) := by decide +kernel
theorem dX10_walks_33 : decode cX10_walks 33 = .ok (.iaload, 1) := by decide +kernel
theorem dX10_walks_34 : decode cX10_walks 34 = .ok (.lshl, 1) := by decide +kernel
theorem dX10_walks_35 : decode cX10_walks 35 = .ok (.lor, 1) := by decide +kernel
theorem dX10_walks_36 : decode cX10_walks 36 = .ok (.lstore 6, 2) := by decide +kernel
theorem dX10_walks_38 : decode cX10_walks 38 = .ok (.iinc 8 1, 3) := by decide +kernel
theorem dX10_walks_41 : decode cX10_walks 41 = .ok (.goto (-35), 3) := by decide +kernel
theorem dX10_walks_44 : decode cX10_walks 44 = .ok (.iload_n 3, 1) := by decide +kernel
theorem dX10_walks_45 : decode cX10_walks 45 = .ok (.ifCond .le 9, 3) := by decide +kernel
theorem dX10_walks_48 : decode cX10_walks 48 = .ok (.ldc2_w 156, 3) := by decide +kernel
theorem dX10_walks_51 : decode cX10_walks 51 = .ok (.goto 5, 3) := by decide +kernel
theorem dX10_walks_54 : decode cX10_walks 54 = .ok (.lload 6, 2) := by decide +kernel
theorem dX10_walks_56 : decode cX10_walks 56 = .ok (.lreturn, 1) := by decide +kernel
theorem dX10_spreads_0 : decode cX10_spreads 0 = .ok (.lload_n 0, 1) := by decide +kernel
theorem dX10_spreads_1 : decode cX10_spreads 1 = .ok (.lload_n 0, 1) := by decide +kernel
theorem dX10_spreads_2 : decode cX10_spreads 2 = .ok (.bipush 6, 2) := by decide +kernel
theorem dX10_spreads_4 : decode cX10_spreads 4 = .ok (.lshl, 1) := by decide +kernel
theorem dX10_spreads_5 : decode cX10_spreads 5 = .ok (.lor, 1) := by decide +kernel
theorem dX10_spreads_6 : decode cX10_spreads 6 = .ok (.lload_n 0, 1) := by decide +kernel
theorem dX10_spreads_7 : decode cX10_spreads 7 = .ok (.bipush 6, 2) := by decide +kernel
theorem dX10_spreads_9 : decode cX10_spreads 9 = .ok (.lshr, 1) := by decide +kernel
theorem dX10_spreads_10 : decode cX10_spreads 10 = .ok (.lor, 1) := by decide +kernel
theorem dX10_spreads_11 : decode cX10_spreads 11 = .ok (.lload_n 0, 1) := by decide +kernel
theorem dX10_spreads_12 : decode cX10_spreads 12 = .ok (.ldc2_w 158, 3) := by decide +kernel
theorem dX10_spreads_15 : decode cX10_spreads 15 = .ok (.land, 1) := by decide +kernel
theorem dX10_spreads_16 : decode cX10_spreads 16 = .ok (.iconst 1, 1) := by decide +kernel
theorem dX10_spreads_17 : decode cX10_spreads 17 = .ok (.lshl, 1) := by decide +kernel
theorem dX10_spreads_18 : decode cX10_spreads 18 = .ok (.lor, 1) := by decide +kernel
theorem dX10_spreads_19 : decode cX10_spreads 19 = .ok (.lload_n 0, 1) := by decide +kernel
theorem dX10_spreads_20 : decode cX10_spreads 20 = .ok (.ldc2_w 160, 3) := by decide +kernel
theorem dX10_spreads_23 : decode cX10_spreads 23 = .ok (.land, 1) := by decide +kernel
theorem dX10_spreads_24 : decode cX10_spreads 24 = .ok (.iconst 1, 1) := by decide +kernel
theorem dX10_spreads_25 : decode cX10_spreads 25 = .ok (.lshr, 1) := by decide +kernel
theorem dX10_spreads_26 : decode cX10_spreads 26 = .ok (.lor, 1) := by decide +kernel
theorem dX10_spreads_27 : decode cX10_spreads 27 = .ok (.ldc2_w 156, 3) := by decide +kernel
theorem dX10_spreads_30 : decode cX10_spreads 30 = .ok (.land, 1) := by decide +kernel
theorem dX10_spreads_31 : decode cX10_spreads 31 = .ok (.lreturn, 1) := by decide +kernel
set_option maxRecDepth 20000 in
theorem ggX10_steps_X10_has : GoodIn wsX10_steps wsX10_has := goodIn_r _ [4] (by decide +kernel) (by decide +kernel)
set_option maxRecDepth 20000 in
theorem gX10_steps_X10_has : GoodIn wsX10_steps (va_wsS RX10 80 yX10_has wsX10_has) := goodIn_app (goodIn_of _ (by decide +kernel)) ggX10_steps_X10_has
set_option maxRecDepth 20000 in
theorem ggX10_steps_X10_spreads : GoodIn wsX10_steps wsX10_spreads := goodIn_r _ [7, 8, 9, 10] (by decide +kernel) (by decide +kernel)
set_option maxRecDepth 20000 in
theorem gX10_steps_X10_spreads : GoodIn wsX10_steps (va_wsS RX10 162 yX10_spreads wsX10_spreads) := goodIn_app (goodIn_of _ (by decide +kernel)) ggX10_steps_X10_spreads
theorem dX10_steps_0 : decode cX10_steps 0 = .ok (.lload_n 0, 1) := by decide +kernel
theorem dX10_steps_1 : decode cX10_steps 1 = .ok (.iload_n 2, 1) := by decide +kernel
theorem dX10_steps_2 : decode cX10_steps 2 = .ok (.invokestatic 80, 3) := by decide +kernel
theorem dX10_steps_5 : decode cX10_steps 5 = .ok (.ifCond .eq 11, 3) := by decide +kernel
theorem dX10_steps_8 : decode cX10_steps 8 = .ok (.lload_n 0, 1) := by decide +kernel
theorem dX10_steps_9 : decode cX10_steps 9 = .ok (.iload_n 3, 1) := by decide +kernel
theorem dX10_steps_10 : decode cX10_steps 10 = .ok (.invokestatic 80, 3) := by decide +kernel
theorem dX10_steps_13 : decode cX10_steps 13 = .ok (.ifCond .ne 6, 3) := by decide +kernel
theorem dX10_steps_16 : decode cX10_steps 16 = .ok (.bipush (-4), 2) := by decide +kernel
theorem dX10_steps_18 : decode cX10_steps 18 = .ok (.ireturn, 1) := by decide +kernel
theorem dX10_steps_19 : decode cX10_steps 19 = .ok (.lconst 1, 1) := by decide +kernel
theorem dX10_steps_20 : decode cX10_steps 20 = .ok (.iload_n 2, 1) := by decide +kernel
theorem dX10_steps_21 : decode cX10_steps 21 = .ok (.lshl, 1) := by decide +kernel
theorem dX10_steps_22 : decode cX10_steps 22 = .ok (.lstore 4, 2) := by decide +kernel
theorem dX10_steps_24 : decode cX10_steps 24 = .ok (.iconst 0, 1) := by decide +kernel
theorem dX10_steps_25 : decode cX10_steps 25 = .ok (.istore 6, 2) := by decide +kernel
theorem dX10_steps_27 : decode cX10_steps 27 = .ok (.iload 6, 2) := by decide +kernel
theorem dX10_steps_29 : decode cX10_steps 29 = .ok (.bipush 36, 2) := by decide +kernel
theorem dX10_steps_31 : decode cX10_steps 31 = .ok (.if_icmp .ge 30, 3) := by decide +kernel
theorem dX10_steps_34 : decode cX10_steps 34 = .ok (.lload 4, 2) := by decide +kernel
theorem dX10_steps_36 : decode cX10_steps 36 = .ok (.iload_n 3, 1) := by decide +kernel
theorem dX10_steps_37 : decode cX10_steps 37 = .ok (.invokestatic 80, 3) := by decide +kernel
theorem dX10_steps_40 : decode cX10_steps 40 = .ok (.ifCond .eq 6, 3) := by decide +kernel
theorem dX10_steps_43 : decode cX10_steps 43 = .ok (.iload 6, 2) := by decide +kernel
theorem dX10_steps_45 : decode cX10_steps 45 = .ok (.ireturn, 1) := by decide +kernel
theorem dX10_steps_46 : decode cX10_steps 46 = .ok (.lload 4, 2) := by decide +kernel
theorem dX10_steps_48 : decode cX10_steps 48 = .ok (.invokestatic 162, 3) := by decide +kernel
theorem dX10_steps_51 : decode cX10_steps 51 = .ok (.lload_n 0, 1) := by decide +kernel
theorem dX10_steps_52 : decode cX10_steps 52 = .ok (.land, 1) := by decide +kernel
theorem dX10_steps_53 : decode cX10_steps 53 = .ok (.lstore 4, 2) := by decide +kernel
theorem dX10_steps_55 : decode cX10_steps 55 = .ok (.iinc 6 1, 3) := by decide +kernel
theorem dX10_steps_58 : decode cX10_steps 58 = .ok (.goto (-31), 3) := by decide +kernel
theorem dX10_steps_61 : decode cX10_steps 61 = .ok (.bipush (-4), 2) := by decide +kernel
theorem dX10_steps_63 : decode cX10_steps 63 = .ok (.ireturn, 1) := by decide +kernel
set_option maxRecDepth 20000 in
theorem ggX10_now_X10_walks : GoodIn wsX10_now wsX10_walks := goodIn_r _ [8, 9, 10, 11, 12, 13, 14, 15, 16, 17, 18, 19, 20, 21, 22, 23, 24, 25, 26, 27, 28, 29, 30, 31, 32, 33, 34, 35, 36, 37, 38, 39, 40] (by decide +kernel) (by decide +kernel)
set_option maxRecDepth 20000 in
theorem gX10_now_X10_walks : GoodIn wsX10_now (wsV RX10 110 RX10 yX10_walks wsX10_walks) := goodIn_app (goodIn_of _ (by decide +kernel)) ggX10_now_X10_walks
theorem dX10_now_0 : decode cX10_now 0 = .ok (.aload_n 0, 1) := by decide +kernel
theorem dX10_now_1 : decode cX10_now 1 = .ok (.aload_n 0, 1) := by decide +kernel
theorem dX10_now_2 : decode cX10_now 2 = .ok (.getfield 76, 3) := by decide +kernel
theorem dX10_now_5 : decode cX10_now 5 = .ok (.aload_n 0, 1) := by decide +kernel
theorem dX10_now_6 : decode cX10_now 6 = .ok (.getfield 107, 3) := by decide +kernel
theorem dX10_now_9 : decode cX10_now 9 = .ok (.aload_n 0, 1) := by decide +kernel
theorem dX10_now_10 : decode cX10_now 10 = .ok (.getfield 7, 3) := by decide +kernel
theorem dX10_now_13 : decode cX10_now 13 = .ok (.iconst (-1), 1) := by decide +kernel
theorem dX10_now_14 : decode cX10_now 14 = .ok (.invokevirtual 110, 3) := by decide +kernel
theorem dX10_now_17 : decode cX10_now 17 = .ok (.lreturn, 1) := by decide +kernel
set_option maxRecDepth 20000 in
theorem ggX10_way_X10_isCell : GoodIn wsX10_way wsX10_isCell := goodIn_r _ [4, 5, 6, 7, 3, 8] (by decide +kernel) (by decide +kernel)
set_option maxRecDepth 20000 in
theorem gX10_way_X10_isCell : GoodIn wsX10_way (va_wsS RX10 72 yX10_isCell wsX10_isCell) := goodIn_app (goodIn_of _ (by decide +kernel)) ggX10_way_X10_isCell
set_option maxRecDepth 20000 in
theorem ggX10_way_X10_now : GoodIn wsX10_way wsX10_now := goodIn_r _ [12, 13, 14, 15, 16, 17, 18, 3, 19, 20, 21, 33, 34, 35, 36, 37, 38, 39, 40, 41, 42, 43, 44, 45, 46, 47, 48, 49, 50, 51, 52, 53, 54, 55, 56, 57, 58, 59, 60, 61, 62] (by decide +kernel) (by decide +kernel)
set_option maxRecDepth 20000 in
theorem gX10_way_X10_now : GoodIn wsX10_way (wsV RX10 166 RX10 yX10_now wsX10_now) := goodIn_app (goodIn_of _ (by decide +kernel)) ggX10_way_X10_now
set_option maxRecDepth 20000 in
theorem ggX10_way_X10_steps : GoodIn wsX10_way wsX10_steps := goodIn_r _ [24, 25, 26, 3, 27, 28, 29, 30, 31, 32, 21] (by decide +kernel) (by decide +kernel)
