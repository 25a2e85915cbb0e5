set_option maxRecDepth 20000 in
theorem ggX10_pilots_X10_isCell : GoodIn wsX10_pilots wsX10_isCell := goodIn_r _ [8, 9, 10, 11, 7, 12] (by decide +kernel) (by decide +kernel)
set_option maxRecDepth 20000 in
theorem gX10_pilots_X10_isCell : GoodIn wsX10_pilots (va_wsS RX10 72 yX10_isCell wsX10_isCell) := goodIn_app (goodIn_of _ (by decide +kernel)) ggX10_pilots_X10_isCell
set_option maxRecDepth 20000 in
theorem ggX10_pilots_X10_now : GoodIn wsX10_pilots wsX10_now := goodIn_r _ [16, 2, 3, 4, 17, 18, 19, 7, 20, 1, 21, 33, 34, 35, 36, 37, 38, 39, 40, 41, 42, 43, 44, 45, 46, 47, 48, 49, 50, 51, 52, 53, 54, 55, 56, 57, 58, 59, 60, 61, 62] (by decide +kernel) (by decide +kernel)
set_option maxRecDepth 20000 in
theorem gX10_pilots_X10_now : GoodIn wsX10_pilots (wsV RX10 166 RX10 yX10_now wsX10_now) := goodIn_app (goodIn_of _ (by decide +kernel)) ggX10_pilots_X10_now
set_option maxRecDepth 20000 in
theorem ggX10_pilots_X10_steps : GoodIn wsX10_pilots wsX10_steps := goodIn_r _ [24, 25, 26, 7, 27, 28, 29, 30, 31, 32, 21] (by decide +kernel) (by decide +kernel)
set_option maxRecDepth 20000 in
theorem gX10_pilots_X10_steps : GoodIn wsX10_pilots (va_wsS RX10 170 yX10_steps wsX10_steps) := goodIn_app (goodIn_of _ (by decide +kernel)) ggX10_pilots_X10_steps
set_option maxRecDepth 20000 in
theorem ggX10_pilots_X10_walks : GoodIn wsX10_pilots wsX10_walks := goodIn_r _ [20, 1, 21, 33, 34, 35, 36, 37, 38, 39, 40, 41, 42, 43, 44, 45, 46, 47, 48, 49, 50, 51, 52, 53, 54, 55, 56, 57, 58, 59, 60, 61, 62] (by decide +kernel) (by decide +kernel)
set_option maxRecDepth 20000 in
theorem gX10_pilots_X10_walks : GoodIn wsX10_pilots (wsV RX10 110 RX10 yX10_walks wsX10_walks) := goodIn_app (goodIn_of _ (by decide +kernel)) ggX10_pilots_X10_walks
theorem dX10_pilots_0 : decode cX10_pilots 0 = .ok (.iload_n 1, 1) := by decide +kernel
theorem dX10_pilots_1 : decode cX10_pilots 1 = .ok (.i2l, 1) := by decide +kernel
theorem dX10_pilots_2 : decode cX10_pilots 2 = .ok (.invokestatic 72, 3) := by decide +kernel
theorem dX10_pilots_5 : decode cX10_pilots 5 = .ok (.ifCond .eq 11, 3) := by decide +kernel
theorem dX10_pilots_8 : decode cX10_pilots 8 = .ok (.iload_n 2, 1) := by decide +kernel
theorem dX10_pilots_9 : decode cX10_pilots 9 = .ok (.i2l, 1) := by decide +kernel
theorem dX10_pilots_10 : decode cX10_pilots 10 = .ok (.invokestatic 72, 3) := by decide +kernel
theorem dX10_pilots_13 : decode cX10_pilots 13 = .ok (.ifCond .ne 5, 3) := by decide +kernel
theorem dX10_pilots_16 : decode cX10_pilots 16 = .ok (.iconst (-1), 1) := by decide +kernel
theorem dX10_pilots_17 : decode cX10_pilots 17 = .ok (.ireturn, 1) := by decide +kernel
theorem dX10_pilots_18 : decode cX10_pilots 18 = .ok (.aload_n 0, 1) := by decide +kernel
theorem dX10_pilots_19 : decode cX10_pilots 19 = .ok (.invokevirtual 166, 3) := by decide +kernel
theorem dX10_pilots_22 : decode cX10_pilots 22 = .ok (.iload_n 1, 1) := by decide +kernel
theorem dX10_pilots_23 : decode cX10_pilots 23 = .ok (.iload_n 2, 1) := by decide +kernel
theorem dX10_pilots_24 : decode cX10_pilots 24 = .ok (.invokestatic 170, 3) := by decide +kernel
theorem dX10_pilots_27 : decode cX10_pilots 27 = .ok (.bipush (-4), 2) := by decide +kernel
theorem dX10_pilots_29 : decode cX10_pilots 29 = .ok (.if_icmp .ne 6, 3) := by decide +kernel
theorem dX10_pilots_32 : decode cX10_pilots 32 = .ok (.bipush (-4), 2) := by decide +kernel
theorem dX10_pilots_34 : decode cX10_pilots 34 = .ok (.ireturn, 1) := by decide +kernel
theorem dX10_pilots_35 : decode cX10_pilots 35 = .ok (.iconst 0, 1) := by decide +kernel
theorem dX10_pilots_36 : decode cX10_pilots 36 = .ok (.istore_n 3, 1) := by decide +kernel
theorem dX10_pilots_37 : decode cX10_pilots 37 = .ok (.iconst 0, 1) := by decide +kernel
theorem dX10_pilots_38 : decode cX10_pilots 38 = .ok (.istore 4, 2) := by decide +kernel
theorem dX10_pilots_40 : decode cX10_pilots 40 = .ok (.iload 4, 2) := by decide +kernel
theorem dX10_pilots_42 : decode cX10_pilots 42 = .ok (.aload_n 0, 1) := by decide +kernel
theorem dX10_pilots_43 : decode cX10_pilots 43 = .ok (.getfield 65, 3) := by decide +kernel
theorem dX10_pilots_46 : decode cX10_pilots 46 = .ok (.if_icmp .ge 48, 3) := by decide +kernel
theorem dX10_pilots_49 : decode cX10_pilots 49 = .ok (.iload_n 3, 1) := by decide +kernel
theorem dX10_pilots_50 : decode cX10_pilots 50 = .ok (.aload_n 0, 1) := by decide +kernel
theorem dX10_pilots_51 : decode cX10_pilots 51 = .ok (.aload_n 0, 1) := by decide +kernel
theorem dX10_pilots_52 : decode cX10_pilots 52 = .ok (.getfield 76, 3) := by decide +kernel
theorem dX10_pilots_55 : decode cX10_pilots 55 = .ok (.aload_n 0, 1) := by decide +kernel
theorem dX10_pilots_56 : decode cX10_pilots 56 = .ok (.getfield 107, 3) := by decide +kernel
theorem dX10_pilots_59 : decode cX10_pilots 59 = .ok (.aload_n 0, 1) := by decide +kernel
theorem dX10_pilots_60 : decode cX10_pilots 60 = .ok (.getfield 7, 3) := by decide +kernel
theorem dX10_pilots_63 : decode cX10_pilots 63 = .ok (.iload 4, 2) := by decide +kernel
theorem dX10_pilots_65 : decode cX10_pilots 65 = .ok (.invokevirtual 110, 3) := by decide +kernel
theorem dX10_pilots_68 : decode cX10_pilots 68 = .ok (.iload_n 1, 1) := by decide +kernel
theorem dX10_pilots_69 : decode cX10_pilots 69 = .ok (.iload_n 2, 1) := by decide +kernel
theorem dX10_pilots_70 : decode cX10_pilots 70 = .ok (.invokestatic 170, 3) := by decide +kernel
theorem dX10_pilots_73 : decode cX10_pilots 73 = .ok (.bipush (-4), 2) := by decide +kernel
theorem dX10_pilots_75 : decode cX10_pilots 75 = .ok (.if_icmp .ne 10, 3) := by decide +kernel
theorem dX10_pilots_78 : decode cX10_pilots 78 = .ok (.iconst 1, 1) := by decide +kernel
theorem dX10_pilots_79 : decode cX10_pilots 79 = .ok (.iload 4, 2) := by decide +kernel
theorem dX10_pilots_81 : decode cX10_pilots 81 = .ok (.ishl, 1) := by decide +kernel
theorem dX10_pilots_82 : decode cX10_pilots 82 = .ok (.goto 4, 3) := by decide +kernel
theorem dX10_pilots_85 : decode cX10_pilots 85 = .ok (.iconst 0, 1) := by decide +kernel
theorem dX10_pilots_86 : decode cX10_pilots 86 = .ok (.ior, 1) := by decide +kernel
theorem dX10_pilots_87 : decode cX10_pilots 87 = .ok (.istore_n 3, 1) := by decide +kernel
theorem dX10_pilots_88 : decode cX10_pilots 88 = .ok (.iinc 4 1, 3) := by decide +kernel
theorem dX10_pilots_91 : decode cX10_pilots 91 = .ok (.goto (-51), 3) := by decide +kernel
theorem dX10_pilots_94 : decode cX10_pilots 94 = .ok (.iload_n 3, 1) := by decide +kernel
theorem dX10_pilots_95 : decode cX10_pilots 95 = .ok (.ireturn, 1) := by decide +kernel
theorem dX10_lay_0 : decode cX10_lay 0 = .ok (.iconst 0, 1) := by decide +kernel
theorem dX10_lay_1 : decode cX10_lay 1 = .ok (.istore_n 3, 1) := by decide +kernel
theorem dX10_lay_2 : decode cX10_lay 2 = .ok (.iload_n 3, 1) := by decide +kernel
theorem dX10_lay_3 : decode cX10_lay 3 = .ok (.bipush 6, 2) := by decide +kernel
theorem dX10_lay_5 : decode cX10_lay 5 = .ok (.if_icmp .ge 20, 3) := by decide +kernel
theorem dX10_lay_8 : decode cX10_lay 8 = .ok (.aload_n 0, 1) := by decide +kernel
theorem dX10_lay_9 : decode cX10_lay 9 = .ok (.getfield 43, 3) := by decide +kernel
theorem dX10_lay_12 : decode cX10_lay 12 = .ok (.iload_n 2, 1) := by decide +kernel
theorem dX10_lay_13 : decode cX10_lay 13 = .ok (.iload_n 3, 1) := by decide +kernel
theorem dX10_lay_14 : decode cX10_lay 14 = .ok (.iadd, 1) := by decide +kernel
theorem dX10_lay_15 : decode cX10_lay 15 = .ok (.aload_n 1, 1) := by decide +kernel
theorem dX10_lay_16 : decode cX10_lay 16 = .ok (.iload_n 3, 1) := by decide +kernel
theorem dX10_lay_17 : decode cX10_lay 17 = .ok (.iaload, 1) := by decide +kernel
theorem dX10_lay_18 : decode cX10_lay 18 = .ok (.iastore, 1) := by decide +kernel
theorem dX10_lay_19 : decode cX10_lay 19 = .ok (.iinc 3 1, 3) := by decide +kernel
theorem dX10_lay_22 : decode cX10_lay 22 = .ok (.goto (-20), 3) := by decide +kernel
theorem dX10_lay_25 : decode cX10_lay 25 = .ok (.iload_n 2, 1) := by decide +kernel
theorem dX10_lay_26 : decode cX10_lay 26 = .ok (.bipush 6, 2) := by decide +kernel
theorem dX10_lay_28 : decode cX10_lay 28 = .ok (.iadd, 1) := by decide +kernel
theorem dX10_lay_29 : decode cX10_lay 29 = .ok (.ireturn, 1) := by decide +kernel
theorem dX10_gives_0 : decode cX10_gives 0 = .ok (.iconst 0, 1) := by decide +kernel
theorem dX10_gives_1 : decode cX10_gives 1 = .ok (.istore_n 3, 1) := by decide +kernel
theorem dX10_gives_2 : decode cX10_gives 2 = .ok (.iload_n 3, 1) := by decide +kernel
theorem dX10_gives_3 : decode cX10_gives 3 = .ok (.bipush 6, 2) := by decide +kernel
theorem dX10_gives_5 : decode cX10_gives 5 = .ok (.if_icmp .ge 20, 3) := by decide +kernel
theorem dX10_gives_8 : decode cX10_gives 8 = .ok (.aload_n 2, 1) := by decide +kernel
theorem dX10_gives_9 : decode cX10_gives 9 = .ok (.iload_n 3, 1) := by decide +kernel
theorem dX10_gives_10 : decode cX10_gives 10 = .ok (.aload_n 0, 1) := by decide +kernel
theorem dX10_gives_11 : decode cX10_gives 11 = .ok (.getfield 43, 3) := by decide +kernel
theorem dX10_gives_14 : decode cX10_gives 14 = .ok (.iload_n 1, 1) := by decide +kernel
theorem dX10_gives_15 : decode cX10_gives 15 = .ok (.iload_n 3, 1) := by decide +kernel
theorem dX10_gives_16 : decode cX10_gives 16 = .ok (.iadd, 1) := by decide +kernel
theorem dX10_gives_17 : decode cX10_gives 17 = .ok (.iaload, 1) := by decide +kernel
theorem dX10_gives_18 : decode cX10_gives 18 = .ok (.iastore, 1) := by decide +kernel
theorem dX10_gives_19 : decode cX10_gives 19 = .ok (.iinc 3 1, 3) := by decide +kernel
theorem dX10_gives_22 : decode cX10_gives 22 = .ok (.goto (-20), 3) := by decide +kernel
theorem dX10_gives_25 : decode cX10_gives 25 = .ok (.iload_n 1, 1) := by decide +kernel
theorem dX10_gives_26 : decode cX10_gives 26 = .ok (.bipush 6, 2) := by decide +kernel
theorem dX10_gives_28 : decode cX10_gives 28 = .ok (.iadd, 1) := by decide +kernel
theorem dX10_gives_29 : decode cX10_gives 29 = .ok (.ireturn, 1) := by decide +kernel
set_option maxRecDepth 20000 in
theorem ggX10_image_X10_lay : GoodIn wsX10_image wsX10_lay := goodIn_r _ [18, 6, 19, 20, 21, 22, 23, 24, 25, 26, 27, 28, 29, 30, 31, 32, 33, 34, 35, 36, 37, 38, 39, 40, 41, 42, 43, 44, 45, 46, 47, 48] (by decide +kernel) (by decide +kernel)
set_option maxRecDepth 20000 in
theorem gX10_image_X10_lay : GoodIn wsX10_image (wsV RX10 204 RX10 yX10_lay wsX10_lay) := goodIn_app (goodIn_of _ (by decide +kernel)) ggX10_image_X10_lay
theorem dX10_image_0 : decode cX10_image 0 = .ok (.aload_n 0, 1) := by decide +kernel
theorem dX10_image_1 : decode cX10_image 1 = .ok (.aload_n 0, 1) := by decide +kernel
theorem dX10_image_2 : decode cX10_image 2 = .ok (.getfield 7, 3) := by decide +kernel
theorem dX10_image_5 : decode cX10_image 5 = .ok (.iconst 0, 1) := by decide +kernel
theorem dX10_image_6 : decode cX10_image 6 = .ok (.invokevirtual 204, 3) := by decide +kernel
theorem dX10_image_9 : decode cX10_image 9 = .ok (.istore_n 1, 1) := by decide +kernel
theorem dX10_image_10 : decode cX10_image 10 = .ok (.aload_n 0, 1) := by decide +kernel
theorem dX10_image_11 : decode cX10_image 11 = .ok (.aload_n 0, 1) := by decide +kernel
theorem dX10_image_12 : decode cX10_image 12 = .ok (.getfield 13, 3) := by decide +kernel
theorem dX10_image_15 : decode cX10_image 15 = .ok (.iload_n 1, 1) := by decide +kernel
theorem dX10_image_16 : decode cX10_image 16 = .ok (.invokevirtual 204, 3) := by decide +kernel
theorem dX10_image_19 : decode cX10_image 19 = .ok (.istore_n 1, 1) := by decide +kernel
theorem dX10_image_20 : decode cX10_image 20 = .ok (.aload_n 0, 1) := by decide +kernel
theorem dX10_image_21 : decode cX10_image 21 = .ok (.aload_n 0, 1) := by decide +kernel
theorem dX10_image_22 : decode cX10_image 22 = .ok (.getfield 16, 3) := by decide +kernel
theorem dX10_image_25 : decode cX10_image 25 = .ok (.iload_n 1, 1) := by decide +kernel
theorem dX10_image_26 : decode cX10_image 26 = .ok (.invokevirtual 204, 3) := by decide +kernel
theorem dX10_image_29 : decode cX10_image 29 = .ok (.istore_n 1, 1) := by decide +kernel
theorem dX10_image_30 : decode cX10_image 30 = .ok (.aload_n 0, 1) := by decide +kernel
theorem dX10_image_31 : decode cX10_image 31 = .ok (.aload_n 0, 1) := by decide +kernel
theorem dX10_image_32 : decode cX10_image 32 = .ok (.getfield 19, 3) := by decide +kernel
theorem dX10_image_35 : decode cX10_image 35 = .ok (.iload_n 1, 1) := by decide +kernel
theorem dX10_image_36 : decode cX10_image 36 = .ok (.invokevirtual 204, 3) := by decide +kernel
theorem dX10_image_39 : decode cX10_image 39 = .ok (.istore_n 1, 1) := by decide +kernel
theorem dX10_image_40 : decode cX10_image 40 = .ok (.aload_n 0, 1) := by decide +kernel
theorem dX10_image_41 : decode cX10_image 41 = .ok (.aload_n 0, 1) := by decide +kernel
theorem dX10_image_42 : decode cX10_image 42 = .ok (.getfield 22, 3) := by decide +kernel
theorem dX10_image_45 : decode cX10_image 45 = .ok (.iload_n 1, 1) := by decide +kernel
theorem dX10_image_46 : decode cX10_image 46 = .ok (.invokevirtual 204, 3) := by decide +kernel
theorem dX10_image_49 : decode cX10_image 49 = .ok (.istore_n 1, 1) := by decide +kernel
theorem dX10_image_50 : decode cX10_image 50 = .ok (.aload_n 0, 1) := by decide +kernel
theorem dX10_image_51 : decode cX10_image 51 = .ok (.getfield 43, 3) := by decide +kernel
theorem dX10_image_54 : decode cX10_image 54 = .ok (.iload_n 1, 1) := by decide +kernel
theorem dX10_image_55 : decode cX10_image 55 = .ok (.aload_n 0, 1) := by decide +kernel
theorem dX10_image_56 : decode cX10_image 56 = .ok (.getfield 65, 3) := by decide +kernel
theorem dX10_image_59 : decode cX10_image 59 = .ok (.iastore, 1) := by decide +kernel
theorem dX10_image_60 : decode cX10_image 60 = .ok (.aload_n 0, 1) := by decide +kernel
theorem dX10_image_61 : decode cX10_image 61 = .ok (.getfield 43, 3) := by decide +kernel
theorem dX10_image_64 : decode cX10_image 64 = .ok (.iload_n 1, 1) := by decide +kernel
theorem dX10_image_65 : decode cX10_image 65 = .ok (.iconst 1, 1) := by decide +kernel
theorem dX10_image_66 : decode cX10_image 66 = .ok (.iadd, 1) := by decide +kernel
theorem dX10_image_67 : decode cX10_image 67 = .ok (.aload_n 0, 1) := by decide +kernel
theorem dX10_image_68 : decode cX10_image 68 = .ok (.getfield 69, 3) := by decide +kernel
theorem dX10_image_71 : decode cX10_image 71 = .ok (.iastore, 1) := by decide +kernel
theorem dX10_image_72 : decode cX10_image 72 = .ok (.aload_n 0, 1) := by decide +kernel
theorem dX10_image_73 : decode cX10_image 73 = .ok (.getfield 43, 3) := by decide +kernel
theorem dX10_image_76 : decode cX10_image 76 = .ok (.iload_n 1, 1) := by decide +kernel
theorem dX10_image_77 : decode cX10_image 77 = .ok (.iconst 2, 1) := by decide +kernel
theorem dX10_image_78 : decode cX10_image 78 = .ok (.iadd, 1) := by decide +kernel
theorem dX10_image_79 : decode cX10_image 79 = .ok (.aload_n 0, 1) := by decide +kernel
theorem dX10_image_80 : decode cX10_image 80 = .ok (.getfield 107, 3) := by decide +kernel
theorem dX10_image_83 : decode cX10_image 83 = .ok (.iastore, 1) := by decide +kernel
theorem dX10_image_84 : decode cX10_image 84 = .ok (.aload_n 0, 1) := by decide +kernel
theorem dX10_image_85 : decode cX10_image 85 = .ok (.getfield 43, 3) := by decide +kernel
theorem dX10_image_88 : decode cX10_image 88 = .ok (.iload_n 1, 1) := by decide +kernel
theorem dX10_image_89 : decode cX10_image 89 = .ok (.iconst 3, 1) := by decide +kernel
theorem dX10_image_90 : decode cX10_image 90 = .ok (.iadd, 1) := by decide +kernel
theorem dX10_image_91 : decode cX10_image 91 = .ok (.aload_n 0, 1) := by decide +kernel
theorem dX10_image_92 : decode cX10_image 92 = .ok (.getfield 116, 3) := by decide +kernel
theorem dX10_image_95 : decode cX10_image 95 = .ok (.iastore, 1) := by decide +kernel
theorem dX10_image_96 : decode cX10_image 96 = .ok (.aload_n 0, 1) := by decide +kernel
theorem dX10_image_97 : decode cX10_image 97 = .ok (.aload_n 0, 1) := by decide +kernel
theorem dX10_image_98 : decode cX10_image 98 = .ok (.getfield 76, 3) := by decide +kernel
theorem dX10_image_101 : decode cX10_image 101 = .ok (.putfield 208, 3) := by decide +kernel
theorem dX10_image_104 : decode cX10_image 104 = .ok (.aload_n 0, 1) := by decide +kernel
theorem dX10_image_105 : decode cX10_image 105 = .ok (.iconst 1, 1) := by decide +kernel
theorem dX10_image_106 : decode cX10_image 106 = .ok (.putfield 211, 3) := by decide +kernel
theorem dX10_image_109 : decode cX10_image 109 = .ok (.iconst 1, 1) := by decide +kernel
theorem dX10_image_110 : decode cX10_image 110 = .ok (.ireturn, 1) := by decide +kernel
set_option maxRecDepth 20000 in
theorem ggX10_restore_X10_gives : GoodIn wsX10_restore wsX10_gives := goodIn_r _ [18, 7, 19, 20, 21, 22, 23, 24, 25, 26, 27, 28, 29, 30, 31, 32, 33, 34, 35, 36, 37, 38, 39, 40, 41, 42, 43, 44, 45, 46, 47, 48] (by decide +kernel) (by decide +kernel)
set_option maxRecDepth 20000 in
theorem gX10_restore_X10_gives : GoodIn wsX10_restore (wsV RX10 215 RX10 yX10_gives wsX10_gives) := goodIn_app (goodIn_of _ (by decide +kernel)) ggX10_restore_X10_gives
theorem dX10_restore_0 : decode cX10_restore 0 = .ok (.aload_n 0, 1) := by decide +kernel
theorem dX10_restore_1 : decode cX10_restore 1 = .ok (.getfield 211, 3) := by decide +kernel
theorem dX10_restore_4 : decode cX10_restore 4 = .ok (.ifCond .ne 6, 3) := by decide +kernel
theorem dX10_restore_7 : decode cX10_restore 7 = .ok (.bipush (-4), 2) := by decide +kernel
theorem dX10_restore_9 : decode cX10_restore 9 = .ok (.ireturn, 1) := by decide +kernel
theorem dX10_restore_10 : decode cX10_restore 10 = .ok (.aload_n 0, 1) := by decide +kernel
theorem dX10_restore_11 : decode cX10_restore 11 = .ok (.iconst 0, 1) := by decide +kernel
theorem dX10_restore_12 : decode cX10_restore 12 = .ok (.aload_n 0, 1) := by decide +kernel
theorem dX10_restore_13 : decode cX10_restore 13 = .ok (.getfield 7, 3) := by decide +kernel
theorem dX10_restore_16 : decode cX10_restore 16 = .ok (.invokevirtual 215, 3) := by decide +kernel
theorem dX10_restore_19 : decode cX10_restore 19 = .ok (.istore_n 1, 1) := by decide +kernel
theorem dX10_restore_20 : decode cX10_restore 20 = .ok (.aload_n 0, 1) := by decide +kernel
theorem dX10_restore_21 : decode cX10_restore 21 = .ok (.iload_n 1, 1) := by decide +kernel
theorem dX10_restore_22 : decode cX10_restore 22 = .ok (.aload_n 0, 1) := by decide +kernel
theorem dX10_restore_23 : decode cX10_restore 23 = .ok (.getfield 13, 3) := by decide +kernel
theorem dX10_restore_26 : decode cX10_restore 26 = .ok (.invokevirtual 215, 3) := by decide +kernel
theorem dX10_restore_29 : decode cX10_restore 29 = .ok (.istore_n 1, 1) := by decide +kernel
theorem dX10_restore_30 : decode cX10_restore 30 = .ok (.aload_n 0, 1) := by decide +kernel
theorem dX10_restore_31 : decode cX10_restore 31 = .ok (.iload_n 1, 1) := by decide +kernel
theorem dX10_restore_32 : decode cX10_restore 32 = .ok (.aload_n 0, 1) := by decide +kernel
theorem dX10_restore_33 : decode cX10_restore 33 = .ok (.getfield 16, 3) := by decide +kernel
theorem dX10_restore_36 : decode cX10_restore 36 = .ok (.invokevirtual 215, 3) := by decide +kernel
theorem dX10_restore_39 : decode cX10_restore 39 = .ok (.istore_n 1, 1) := by decide +kernel
theorem dX10_restore_40 : decode cX10_restore 40 = .ok (.aload_n 0, 1) := by decide +kernel
theorem dX10_restore_41 : decode cX10_restore 41 = .ok (.iload_n 1, 1) := by decide +kernel
theorem dX10_restore_42 : decode cX10_restore 42 = .ok (.aload_n 0, 1) := by decide +kernel
theorem dX10_restore_43 : decode cX10_restore 43 = .ok (.getfield 19, 3) := by decide +kernel
theorem dX10_restore_46 : decode cX10_restore 46 = .ok (.invokevirtual 215, 3) := by decide +kernel
theorem dX10_restore_49 : decode cX10_restore 49 = .ok (.istore_n 1, 1) := by decide +kernel
theorem dX10_restore_50 : decode cX10_restore 50 = .ok (.aload_n 0, 1) := by decide +kernel
theorem dX10_restore_51 : decode cX10_restore 51 = .ok (.iload_n 1, 1) := by decide +kernel
theorem dX10_restore_52 : decode cX10_restore 52 = .ok (.aload_n 0, 1) := by decide +kernel
theorem dX10_restore_53 : decode cX10_restore 53 = .ok (.getfield 22, 3) := by decide +kernel
theorem dX10_restore_56 : decode cX10_restore 56 = .ok (.invokevirtual 215, 3) := by decide +kernel
theorem dX10_restore_59 : decode cX10_restore 59 = .ok (.istore_n 1, 1) := by decide +kernel
theorem dX10_restore_60 : decode cX10_restore 60 = .ok (.aload_n 0, 1) := by decide +kernel
theorem dX10_restore_61 : decode cX10_restore 61 = .ok (.aload_n 0, 1) := by decide +kernel
theorem dX10_restore_62 : decode cX10_restore 62 = .ok (.getfield 43, 3) := by decide +kernel
theorem dX10_restore_65 : decode cX10_restore 65 = .ok (.iload_n 1, 1) := by decide +kernel
theorem dX10_restore_66 : decode cX10_restore 66 = .ok (.iaload, 1) := by decide +kernel
theorem dX10_restore_67 : decode cX10_restore 67 = .ok (.putfield 65, 3) := by decide +kernel
theorem dX10_restore_70 : decode cX10_restore 70 = .ok (.aload_n 0, 1) := by decide +kernel
theorem dX10_restore_71 : decode cX10_restore 71 = .ok (.aload_n 0, 1) := by decide +kernel
theorem dX10_restore_72 : decode cX10_restore 72 = .ok (.getfield 43, 3) := by decide +kernel
theorem dX10_restore_75 : decode cX10_restore 75 = .ok (.iload_n 1, 1) := by decide +kernel
theorem dX10_restore_76 : decode cX10_restore 76 = .ok (.iconst 1, 1) := by decide +kernel
theorem dX10_restore_77 : decode cX10_restore 77 = .ok (.iadd, 1) := by decide +kernel
theorem dX10_restore_78 : decode cX10_restore 78 = .ok (.iaload, 1) := by decide +kernel
theorem dX10_restore_79 : decode cX10_restore 79 = .ok (.putfield 69, 3) := by decide +kernel
theorem dX10_restore_82 : decode cX10_restore 82 = .ok (.aload_n 0, 1) := by decide +kernel
theorem dX10_restore_83 : decode cX10_restore 83 = .ok (.aload_n 0, 1) := by decide +kernel
theorem dX10_restore_84 : decode cX10_restore 84 = .ok (.getfield 43, 3) := by decide +kernel
theorem dX10_restore_87 : decode cX10_restore 87 = .ok (.iload_n 1, 1) := by decide +kernel
theorem dX10_restore_88 : decode cX10_restore 88 = .ok (.iconst 2, 1) := by decide +kernel
theorem dX10_restore_89 : decode cX10_restore 89 = .ok (.iadd, 1) := by decide +kernel
theorem dX10_restore_90 : decode cX10_restore 90 = .ok (.iaload, 1) := by decide +kernel
theorem dX10_restore_91 : decode cX10_restore 91 = .ok (.putfield 107, 3) := by decide +kernel
theorem dX10_restore_94 : decode cX10_restore 94 = .ok (.aload_n 0, 1) := by decide +kernel
theorem dX10_restore_95 : decode cX10_restore 95 = .ok (.aload_n 0, 1) := by decide +kernel
theorem dX10_restore_96 : decode cX10_restore 96 = .ok (.getfield 43, 3) := by decide +kernel
theorem dX10_restore_99 : decode cX10_restore 99 = .ok (.iload_n 1, 1) := by decide +kernel
theorem dX10_restore_100 : decode cX10_restore 100 = .ok (.iconst 3, 1) := by decide +kernel
theorem dX10_restore_101 : decode cX10_restore 101 = .ok (.iadd, 1) := by decide +kernel
theorem dX10_restore_102 : decode cX10_restore 102 = .ok (.iaload, 1) := by decide +kernel
theorem dX10_restore_103 : decode cX10_restore 103 = .ok (.putfield 116, 3) := by decide +kernel
theorem dX10_restore_106 : decode cX10_restore 106 = .ok (.aload_n 0, 1) := by decide +kernel
theorem dX10_restore_107 : decode cX10_restore 107 = .ok (.aload_n 0, 1) := by decide +kernel
theorem dX10_restore_108 : decode cX10_restore 108 = .ok (.getfield 208, 3) := by decide +kernel
theorem dX10_restore_111 : decode cX10_restore 111 = .ok (.putfield 76, 3) := by decide +kernel
theorem dX10_restore_114 : decode cX10_restore 114 = .ok (.iconst 1, 1) := by decide +kernel
theorem dX10_restore_115 : decode cX10_restore 115 = .ok (.ireturn, 1) := by decide +kernel
set_option maxRecDepth 20000 in
theorem ggX10_isSheet_X10_in : GoodIn wsX10_isSheet wsX10_in := goodIn_r _ [5] (by decide +kernel) (by decide +kernel)
set_option maxRecDepth 20000 in
theorem gX10_isSheet_X10_in : GoodIn wsX10_isSheet (va_wsS RX10 61 yX10_in wsX10_in) := goodIn_app (goodIn_of _ (by decide +kernel)) ggX10_isSheet_X10_in
theorem dX10_isSheet_0 : decode cX10_isSheet 0 = .ok (.iload_n 0, 1) := by decide +kernel
theorem dX10_isSheet_1 : decode cX10_isSheet 1 = .ok (.i2l, 1) := by decide +kernel
theorem dX10_isSheet_2 : decode cX10_isSheet 2 = .ok (.lconst 0, 1) := by decide +kernel
theorem dX10_isSheet_3 : decode cX10_isSheet 3 = .ok (.ldc2_w 90, 3) := by decide +kernel
theorem dX10_isSheet_6 : decode cX10_isSheet 6 = .ok (.invokestatic 61, 3) := by decide +kernel
theorem dX10_isSheet_9 : decode cX10_isSheet 9 = .ok (.ireturn, 1) := by decide +kernel
set_option maxRecDepth 20000 in
theorem ggX10_isLane_X10_in : GoodIn wsX10_isLane wsX10_in := goodIn_r _ [5] (by decide +kernel) (by decide +kernel)
set_option maxRecDepth 20000 in
theorem gX10_isLane_X10_in : GoodIn wsX10_isLane (va_wsS RX10 61 yX10_in wsX10_in) := goodIn_app (goodIn_of _ (by decide +kernel)) ggX10_isLane_X10_in
theorem dX10_isLane_0 : decode cX10_isLane 0 = .ok (.iload_n 0, 1) := by decide +kernel
theorem dX10_isLane_1 : decode cX10_isLane 1 = .ok (.i2l, 1) := by decide +kernel
theorem dX10_isLane_2 : decode cX10_isLane 2 = .ok (.lconst 0, 1) := by decide +kernel
theorem dX10_isLane_3 : decode cX10_isLane 3 = .ok (.ldc2_w 219, 3) := by decide +kernel
theorem dX10_isLane_6 : decode cX10_isLane 6 = .ok (.invokestatic 61, 3) := by decide +kernel
theorem dX10_isLane_9 : decode cX10_isLane 9 = .ok (.ireturn, 1) := by decide +kernel
theorem dX10_why_0 : decode cX10_why 0 = .ok (.aload_n 0, 1) := by decide +kernel
theorem dX10_why_1 : decode cX10_why 1 = .ok (.getfield 46, 3) := by decide +kernel
theorem dX10_why_4 : decode cX10_why 4 = .ok (.iload_n 1, 1) := by decide +kernel
theorem dX10_why_5 : decode cX10_why 5 = .ok (.iaload, 1) := by decide +kernel
theorem dX10_why_6 : decode cX10_why 6 = .ok (.ifCond .ge 6, 3) := by decide +kernel
theorem dX10_why_9 : decode cX10_why 9 = .ok (.bipush (-11), 2) := by decide +kernel
theorem dX10_why_11 : decode cX10_why 11 = .ok (.ireturn, 1) := by decide +kernel
theorem dX10_why_12 : decode cX10_why 12 = .ok (.aload_n 0, 1) := by decide +kernel
theorem dX10_why_13 : decode cX10_why 13 = .ok (.getfield 46, 3) := by decide +kernel
theorem dX10_why_16 : decode cX10_why 16 = .ok (.iload_n 1, 1) := by decide +kernel
theorem dX10_why_17 : decode cX10_why 17 = .ok (.iaload, 1) := by decide +kernel
theorem dX10_why_18 : decode cX10_why 18 = .ok (.iload_n 2, 1) := by decide +kernel
theorem dX10_why_19 : decode cX10_why 19 = .ok (.if_icmp .eq 6, 3) := by decide +kernel
theorem dX10_why_22 : decode cX10_why 22 = .ok (.bipush (-12), 2) := by decide +kernel
theorem dX10_why_24 : decode cX10_why 24 = .ok (.ireturn, 1) := by decide +kernel
theorem dX10_why_25 : decode cX10_why 25 = .ok (.iload_n 3, 1) := by decide +kernel
theorem dX10_why_26 : decode cX10_why 26 = .ok (.ifCond .lt 20, 3) := by decide +kernel
theorem dX10_why_29 : decode cX10_why 29 = .ok (.iload_n 3, 1) := by decide +kernel
theorem dX10_why_30 : decode cX10_why 30 = .ok (.i2l, 1) := by decide +kernel
theorem dX10_why_31 : decode cX10_why 31 = .ok (.iload 4, 2) := by decide +kernel
theorem dX10_why_33 : decode cX10_why 33 = .ok (.i2l, 1) := by decide +kernel
theorem dX10_why_34 : decode cX10_why 34 = .ok (.ladd, 1) := by decide +kernel
theorem dX10_why_35 : decode cX10_why 35 = .ok (.aload_n 0, 1) := by decide +kernel
theorem dX10_why_36 : decode cX10_why 36 = .ok (.getfield 49, 3) := by decide +kernel
theorem dX10_why_39 : decode cX10_why 39 = .ok (.iload_n 1, 1) := by decide +kernel
theorem dX10_why_40 : decode cX10_why 40 = .ok (.iaload, 1) := by decide +kernel
theorem dX10_why_41 : decode cX10_why 41 = .ok (.i2l, 1) := by decide +kernel
theorem dX10_why_42 : decode cX10_why 42 = .ok (.lcmp, 1) := by decide +kernel
theorem dX10_why_43 : decode cX10_why 43 = .ok (.ifCond .le 8, 3) := by decide +kernel
theorem dX10_why_46 : decode cX10_why 46 = .ok (.bipush (-13), 2) := by decide +kernel
theorem dX10_why_48 : decode cX10_why 48 = .ok (.goto 4, 3) := by decide +kernel
theorem dX10_why_51 : decode cX10_why 51 = .ok (.iconst 0, 1) := by decide +kernel
theorem dX10_why_52 : decode cX10_why 52 = .ok (.ireturn, 1) := by decide +kernel
set_option maxRecDepth 20000 in
theorem ggX10_sat_X10_isOne : GoodIn wsX10_sat wsX10_isOne := goodIn_r _ [12, 13, 14, 15, 11, 16, 74, 75, 76, 77, 78, 79, 80, 81, 82, 83, 84, 85, 86, 87, 88, 89, 90, 91, 92, 93, 94, 95, 96, 97, 98, 99, 100, 101, 102, 103] (by decide +kernel) (by decide +kernel)
set_option maxRecDepth 20000 in
theorem gX10_sat_X10_isOne : GoodIn wsX10_sat (wsV RX10 92 RX10 yX10_isOne wsX10_isOne) := goodIn_app (goodIn_of _ (by decide +kernel)) ggX10_sat_X10_isOne
set_option maxRecDepth 20000 in
theorem ggX10_sat_X10_in : GoodIn wsX10_sat wsX10_in := goodIn_r _ [16] (by decide +kernel) (by decide +kernel)
set_option maxRecDepth 20000 in
theorem gX10_sat_X10_in : GoodIn wsX10_sat (va_wsS RX10 61 yX10_in wsX10_in) := goodIn_app (goodIn_of _ (by decide +kernel)) ggX10_sat_X10_in
set_option maxRecDepth 20000 in
theorem ggX10_sat_X10_isSheet : GoodIn wsX10_sat wsX10_isSheet := goodIn_r _ [19, 20, 14, 15, 11, 16] (by decide +kernel) (by decide +kernel)
set_option maxRecDepth 20000 in
theorem gX10_sat_X10_isSheet : GoodIn wsX10_sat (va_wsS RX10 221 yX10_isSheet wsX10_isSheet) := goodIn_app (goodIn_of _ (by decide +kernel)) ggX10_sat_X10_isSheet
set_option maxRecDepth 20000 in
theorem ggX10_sat_X10_isLane : GoodIn wsX10_sat wsX10_isLane := goodIn_r _ [23, 24, 14, 15, 11, 16] (by decide +kernel) (by decide +kernel)
set_option maxRecDepth 20000 in
theorem gX10_sat_X10_isLane : GoodIn wsX10_sat (va_wsS RX10 224 yX10_isLane wsX10_isLane) := goodIn_app (goodIn_of _ (by decide +kernel)) ggX10_sat_X10_isLane
set_option maxRecDepth 20000 in
theorem ggX10_sat_X10_why : GoodIn wsX10_sat wsX10_why := goodIn_r _ [28, 29, 30, 74, 75, 76, 77, 78, 79, 80, 81, 82, 83, 84, 85, 86, 87, 88, 89, 90, 91, 92, 93, 94, 95, 96, 97, 98, 99, 100, 101, 102, 103] (by decide +kernel) (by decide +kernel)
set_option maxRecDepth 20000 in
theorem gX10_sat_X10_why : GoodIn wsX10_sat (wsV RX10 227 RX10 yX10_why wsX10_why) := goodIn_app (goodIn_of _ (by decide +kernel)) ggX10_sat_X10_why
set_option maxRecDepth 20000 in
theorem ggX10_sat_X10_keeps : GoodIn wsX10_sat wsX10_keeps := goodIn_r _ [34, 4, 35, 5, 36, 74, 75, 76, 77, 78, 79, 80, 81, 82, 83, 84, 85, 86, 87, 88, 89, 90, 91, 92, 93, 94, 95, 96, 97, 98, 99, 100, 101, 102, 103] (by decide +kernel) (by decide +kernel)
set_option maxRecDepth 20000 in
theorem gX10_sat_X10_keeps : GoodIn wsX10_sat (wsV RX10 194 RX10 yX10_keeps wsX10_keeps) := goodIn_app (goodIn_of _ (by decide +kernel)) ggX10_sat_X10_keeps
set_option maxRecDepth 20000 in
theorem ggX10_sat_X10_lays : GoodIn wsX10_sat wsX10_lays := goodIn_r _ [40, 3, 41, 42, 43, 6, 44, 45, 13, 46, 5, 4, 47, 48, 49, 50, 11, 51, 52, 53, 54, 55, 56, 57, 58, 59, 60, 61, 62, 63, 64, 65, 66, 67, 68, 69, 74, 75, 76, 77, 78, 79, 80, 81, 82, 83, 84, 85, 86, 87, 88, 89, 90, 91, 92, 93, 94, 95, 96, 97, 98, 99, 100, 101, 102, 103] (by decide +kernel) (by decide +kernel)
set_option maxRecDepth 20000 in
theorem gX10_sat_X10_lays : GoodIn wsX10_sat (wsV RX10 153 RX10 yX10_lays wsX10_lays) := goodIn_app (goodIn_of _ (by decide +kernel)) ggX10_sat_X10_lays
set_option maxRecDepth 20000 in
theorem ggX10_sat_X10_back : GoodIn wsX10_sat wsX10_back := goodIn_r _ [73, 4, 35, 5, 36, 74, 75, 76, 77, 78, 79, 80, 81, 82, 83, 84, 85, 86, 87, 88, 89, 90, 91, 92, 93, 94, 95, 96, 97, 98, 99, 100, 101, 102, 103] (by decide +kernel) (by decide +kernel)
set_option maxRecDepth 20000 in
theorem gX10_sat_X10_back : GoodIn wsX10_sat (wsV RX10 201 RX10 yX10_back wsX10_back) := goodIn_app (goodIn_of _ (by decide +kernel)) ggX10_sat_X10_back
theorem dX10_sat_0 : decode cX10_sat 0 = .ok (.aload_n 0, 1) := by decide +kernel
theorem dX10_sat_1 : decode cX10_sat 1 = .ok (.iload_n 1, 1) := by decide +kernel
theorem dX10_sat_2 : decode cX10_sat 2 = .ok (.invokevirtual 92, 3) := by decide +kernel
theorem dX10_sat_5 : decode cX10_sat 5 = .ok (.ifCond .eq 30, 3) := by decide +kernel
theorem dX10_sat_8 : decode cX10_sat 8 = .ok (.iload_n 2, 1) := by decide +kernel
theorem dX10_sat_9 : decode cX10_sat 9 = .ok (.i2l, 1) := by decide +kernel
theorem dX10_sat_10 : decode cX10_sat 10 = .ok (.lconst 1, 1) := by decide +kernel
theorem dX10_sat_11 : decode cX10_sat 11 = .ok (.ldc2_w 95, 3) := by decide +kernel
theorem dX10_sat_14 : decode cX10_sat 14 = .ok (.invokestatic 61, 3) := by decide +kernel
theorem dX10_sat_17 : decode cX10_sat 17 = .ok (.ifCond .eq 18, 3) := by decide +kernel
theorem dX10_sat_20 : decode cX10_sat 20 = .ok (.iload_n 3, 1) := by decide +kernel
theorem dX10_sat_21 : decode cX10_sat 21 = .ok (.invokestatic 221, 3) := by decide +kernel
theorem dX10_sat_24 : decode cX10_sat 24 = .ok (.ifCond .eq 11, 3) := by decide +kernel
theorem dX10_sat_27 : decode cX10_sat 27 = .ok (.iload 4, 2) := by decide +kernel
theorem dX10_sat_29 : decode cX10_sat 29 = .ok (.invokestatic 224, 3) := by decide +kernel
theorem dX10_sat_32 : decode cX10_sat 32 = .ok (.ifCond .ne 7, 3) := by decide +kernel
theorem dX10_sat_35 : decode cX10_sat 35 = .ok (.ldc2_w 84, 3) := by decide +kernel
theorem dX10_sat_38 : decode cX10_sat 38 = .ok (.lreturn, 1) := by decide +kernel
theorem dX10_sat_39 : decode cX10_sat 39 = .ok (.aload_n 0, 1) := by decide +kernel
theorem dX10_sat_40 : decode cX10_sat 40 = .ok (.iload_n 3, 1) := by decide +kernel
theorem dX10_sat_41 : decode cX10_sat 41 = .ok (.iload 4, 2) := by decide +kernel
theorem dX10_sat_43 : decode cX10_sat 43 = .ok (.iload 5, 2) := by decide +kernel
theorem dX10_sat_45 : decode cX10_sat 45 = .ok (.aload_n 0, 1) := by decide +kernel
theorem dX10_sat_46 : decode cX10_sat 46 = .ok (.getfield 65, 3) := by decide +kernel
theorem dX10_sat_49 : decode cX10_sat 49 = .ok (.invokevirtual 227, 3) := by decide +kernel
theorem dX10_sat_52 : decode cX10_sat 52 = .ok (.istore 6, 2) := by decide +kernel
theorem dX10_sat_54 : decode cX10_sat 54 = .ok (.iload 6, 2) := by decide +kernel
theorem dX10_sat_56 : decode cX10_sat 56 = .ok (.ifCond .ge 7, 3) := by decide +kernel
theorem dX10_sat_59 : decode cX10_sat 59 = .ok (.iload 6, 2) := by decide +kernel
theorem dX10_sat_61 : decode cX10_sat 61 = .ok (.i2l, 1) := by decide +kernel
theorem dX10_sat_62 : decode cX10_sat 62 = .ok (.lreturn, 1) := by decide +kernel
theorem dX10_sat_63 : decode cX10_sat 63 = .ok (.aload_n 0, 1) := by decide +kernel
theorem dX10_sat_64 : decode cX10_sat 64 = .ok (.iload_n 1, 1) := by decide +kernel
theorem dX10_sat_65 : decode cX10_sat 65 = .ok (.invokevirtual 194, 3) := by decide +kernel
theorem dX10_sat_68 : decode cX10_sat 68 = .ok (.lconst 0, 1) := by decide +kernel
theorem dX10_sat_69 : decode cX10_sat 69 = .ok (.lstore 7, 2) := by decide +kernel
theorem dX10_sat_71 : decode cX10_sat 71 = .ok (.iconst 0, 1) := by decide +kernel
theorem dX10_sat_72 : decode cX10_sat 72 = .ok (.istore 9, 2) := by decide +kernel
theorem dX10_sat_74 : decode cX10_sat 74 = .ok (.iload 9, 2) := by decide +kernel
theorem dX10_sat_76 : decode cX10_sat 76 = .ok (.bipush 36, 2) := by decide +kernel
theorem dX10_sat_78 : decode cX10_sat 78 = .ok (.if_icmp .ge 107, 3) := by decide +kernel
theorem dX10_sat_81 : decode cX10_sat 81 = .ok (.aload_n 0, 1) := by decide +kernel
theorem dX10_sat_82 : decode cX10_sat 82 = .ok (.getfield 16, 3) := by decide +kernel
theorem dX10_sat_85 : decode cX10_sat 85 = .ok (.iload_n 1, 1) := by decide +kernel
theorem dX10_sat_86 : decode cX10_sat 86 = .ok (.iload 9, 2) := by decide +kernel
theorem dX10_sat_88 : decode cX10_sat 88 = .ok (.iastore, 1) := by decide +kernel
theorem dX10_sat_89 : decode cX10_sat 89 = .ok (.aload_n 0, 1) := by decide +kernel
theorem dX10_sat_90 : decode cX10_sat 90 = .ok (.getfield 19, 3) := by decide +kernel
theorem dX10_sat_93 : decode cX10_sat 93 = .ok (.iload_n 1, 1) := by decide +kernel
theorem dX10_sat_94 : decode cX10_sat 94 = .ok (.iload_n 2, 1) := by decide +kernel
theorem dX10_sat_95 : decode cX10_sat 95 = .ok (.iastore, 1) := by decide +kernel
theorem dX10_sat_96 : decode cX10_sat 96 = .ok (.aload_n 0, 1) := by decide +kernel
theorem dX10_sat_97 : decode cX10_sat 97 = .ok (.invokevirtual 153, 3) := by decide +kernel
theorem dX10_sat_100 : decode cX10_sat 100 = .ok (.pop, 1) := by decide +kernel
theorem dX10_sat_101 : decode cX10_sat 101 = .ok (.iconst 1, 1) := by decide +kernel
theorem dX10_sat_102 : decode cX10_sat 102 = .ok (.istore 10, 2) := by decide +kernel
theorem dX10_sat_104 : decode cX10_sat 104 = .ok (.iconst 0, 1) := by decide +kernel
theorem dX10_sat_105 : decode cX10_sat 105 = .ok (.istore 11, 2) := by decide +kernel
theorem dX10_sat_107 : decode cX10_sat 107 = .ok (.iload 11, 2) := by decide +kernel
theorem dX10_sat_109 : decode cX10_sat 109 = .ok (.aload_n 0, 1) := by decide +kernel
theorem dX10_sat_110 : decode cX10_sat 110 = .ok (.getfield 65, 3) := by decide +kernel
theorem dX10_sat_113 : decode cX10_sat 113 = .ok (.if_icmp .ge 48, 3) := by decide +kernel
theorem dX10_sat_116 : decode cX10_sat 116 = .ok (.iload 10, 2) := by decide +kernel
theorem dX10_sat_118 : decode cX10_sat 118 = .ok (.ifCond .eq 34, 3) := by decide +kernel
theorem dX10_sat_121 : decode cX10_sat 121 = .ok (.aload_n 0, 1) := by decide +kernel
theorem dX10_sat_122 : decode cX10_sat 122 = .ok (.getfield 34, 3) := by decide +kernel
theorem dX10_sat_125 : decode cX10_sat 125 = .ok (.iload 11, 2) := by decide +kernel
theorem dX10_sat_127 : decode cX10_sat 127 = .ok (.iaload, 1) := by decide +kernel
theorem dX10_sat_128 : decode cX10_sat 128 = .ok (.i2l, 1) := by decide +kernel
theorem dX10_sat_129 : decode cX10_sat 129 = .ok (.aload_n 0, 1) := by decide +kernel
theorem dX10_sat_130 : decode cX10_sat 130 = .ok (.getfield 52, 3) := by decide +kernel
theorem dX10_sat_133 : decode cX10_sat 133 = .ok (.bipush 16, 2) := by decide +kernel
theorem dX10_sat_135 : decode cX10_sat 135 = .ok (.iload_n 3, 1) := by decide +kernel
theorem dX10_sat_136 : decode cX10_sat 136 = .ok (.imul, 1) := by decide +kernel
theorem dX10_sat_137 : decode cX10_sat 137 = .ok (.iload 5, 2) := by decide +kernel
theorem dX10_sat_139 : decode cX10_sat 139 = .ok (.iadd, 1) := by decide +kernel
theorem dX10_sat_140 : decode cX10_sat 140 = .ok (.iload 11, 2) := by decide +kernel
theorem dX10_sat_142 : decode cX10_sat 142 = .ok (.iadd, 1) := by decide +kernel
theorem dX10_sat_143 : decode cX10_sat 143 = .ok (.laload, 1) := by decide +kernel
theorem dX10_sat_144 : decode cX10_sat 144 = .ok (.lcmp, 1) := by decide +kernel
theorem dX10_sat_145 : decode cX10_sat 145 = .ok (.ifCond .ne 7, 3) := by decide +kernel
theorem dX10_sat_148 : decode cX10_sat 148 = .ok (.iconst 1, 1) := by decide +kernel
theorem dX10_sat_149 : decode cX10_sat 149 = .ok (.goto 4, 3) := by decide +kernel
theorem dX10_sat_152 : decode cX10_sat 152 = .ok (.iconst 0, 1) := by decide +kernel
theorem dX10_sat_153 : decode cX10_sat 153 = .ok (.istore 10, 2) := by decide +kernel
theorem dX10_sat_155 : decode cX10_sat 155 = .ok (.iinc 11 1, 3) := by decide +kernel
theorem dX10_sat_158 : decode cX10_sat 158 = .ok (.goto (-51), 3) := by decide +kernel
theorem dX10_sat_161 : decode cX10_sat 161 = .ok (.lload 7, 2) := by decide +kernel
theorem dX10_sat_163 : decode cX10_sat 163 = .ok (.iload 10, 2) := by decide +kernel
theorem dX10_sat_165 : decode cX10_sat 165 = .ok (.ifCond .eq 10, 3) := by decide +kernel
theorem dX10_sat_168 : decode cX10_sat 168 = .ok (.lconst 1, 1) := by decide +kernel
theorem dX10_sat_169 : decode cX10_sat 169 = .ok (.iload 9, 2) := by decide +kernel
theorem dX10_sat_171 : decode cX10_sat 171 = .ok (.lshl, 1) := by decide +kernel
theorem dX10_sat_172 : decode cX10_sat 172 = .ok (.goto 4, 3) := by decide +kernel
theorem dX10_sat_175 : decode cX10_sat 175 = .ok (.lconst 0, 1) := by decide +kernel
theorem dX10_sat_176 : decode cX10_sat 176 = .ok (.lor, 1) := by decide +kernel
theorem dX10_sat_177 : decode cX10_sat 177 = .ok (.lstore 7, 2) := by decide +kernel
theorem dX10_sat_179 : decode cX10_sat 179 = .ok (.iinc 9 1, 3) := by decide +kernel
theorem dX10_sat_182 : decode cX10_sat 182 = .ok (.goto (-108), 3) := by decide +kernel
theorem dX10_sat_185 : decode cX10_sat 185 = .ok (.aload_n 0, 1) := by decide +kernel
theorem dX10_sat_186 : decode cX10_sat 186 = .ok (.iload_n 1, 1) := by decide +kernel
theorem dX10_sat_187 : decode cX10_sat 187 = .ok (.invokevirtual 201, 3) := by decide +kernel
theorem dX10_sat_190 : decode cX10_sat 190 = .ok (.lload 7, 2) := by decide +kernel
theorem dX10_sat_192 : decode cX10_sat 192 = .ok (.lreturn, 1) := by decide +kernel
theorem dX10_puts_0 : decode cX10_puts 0 = .ok (.aload_n 0, 1) := by decide +kernel
theorem dX10_puts_1 : decode cX10_puts 1 = .ok (.getfield 46, 3) := by decide +kernel
theorem dX10_puts_4 : decode cX10_puts 4 = .ok (.iload_n 1, 1) := by decide +kernel
theorem dX10_puts_5 : decode cX10_puts 5 = .ok (.iaload, 1) := by decide +kernel
theorem dX10_puts_6 : decode cX10_puts 6 = .ok (.istore 5, 2) := by decide +kernel
theorem dX10_puts_8 : decode cX10_puts 8 = .ok (.aload_n 0, 1) := by decide +kernel
theorem dX10_puts_9 : decode cX10_puts 9 = .ok (.getfield 52, 3) := by decide +kernel
theorem dX10_puts_12 : decode cX10_puts 12 = .ok (.bipush 16, 2) := by decide +kernel
theorem dX10_puts_14 : decode cX10_puts 14 = .ok (.iload_n 1, 1) := by decide +kernel
theorem dX10_puts_15 : decode cX10_puts 15 = .ok (.imul, 1) := by decide +kernel
theorem dX10_puts_16 : decode cX10_puts 16 = .ok (.iload_n 2, 1) := by decide +kernel
theorem dX10_puts_17 : decode cX10_puts 17 = .ok (.iadd, 1) := by decide +kernel
theorem dX10_puts_18 : decode cX10_puts 18 = .ok (.iload 5, 2) := by decide +kernel
theorem dX10_puts_20 : decode cX10_puts 20 = .ok (.ifCond .ne 10, 3) := by decide +kernel
theorem dX10_puts_23 : decode cX10_puts 23 = .ok (.lload_n 3, 1) := by decide +kernel
theorem dX10_puts_24 : decode cX10_puts 24 = .ok (.l2i, 1) := by decide +kernel
theorem dX10_puts_25 : decode cX10_puts 25 = .ok (.i2b, 1) := by decide +kernel
theorem dX10_puts_26 : decode cX10_puts 26 = .ok (.i2l, 1) := by decide +kernel
theorem dX10_puts_27 : decode cX10_puts 27 = .ok (.goto 16, 3) := by decide +kernel
theorem dX10_puts_30 : decode cX10_puts 30 = .ok (.iload 5, 2) := by decide +kernel
theorem dX10_puts_32 : decode cX10_puts 32 = .ok (.iconst 1, 1) := by decide +kernel
theorem dX10_puts_33 : decode cX10_puts 33 = .ok (.if_icmp .ne 9, 3) := by decide +kernel
theorem dX10_puts_36 : decode cX10_puts 36 = .ok (.lload_n 3, 1) := by decide +kernel
theorem dX10_puts_37 : decode cX10_puts 37 = .ok (.l2i, 1) := by decide +kernel
theorem dX10_puts_38 : decode cX10_puts 38 = .ok (.i2l, 1) := by decide +kernel
theorem dX10_puts_39 : decode cX10_puts 39 = .ok (.goto 4, 3) := by decide +kernel
theorem dX10_puts_42 : decode cX10_puts 42 = .ok (.lload_n 3, 1) := by decide +kernel
theorem dX10_puts_43 : decode cX10_puts 43 = .ok (.lastore, 1) := by decide +kernel
theorem dX10_puts_44 : decode cX10_puts 44 = .ok (.return_, 1) := by decide +kernel
set_option maxRecDepth 20000 in
theorem ggX10_film_X10_isSheet : GoodIn wsX10_film wsX10_isSheet := goodIn_r _ [6, 7, 8, 9, 5, 10] (by decide +kernel) (by decide +kernel)
set_option maxRecDepth 20000 in
theorem gX10_film_X10_isSheet : GoodIn wsX10_film (va_wsS RX10 221 yX10_isSheet wsX10_isSheet) := goodIn_app (goodIn_of _ (by decide +kernel)) ggX10_film_X10_isSheet
set_option maxRecDepth 20000 in
theorem ggX10_film_X10_isLane : GoodIn wsX10_film wsX10_isLane := goodIn_r _ [13, 14, 8, 9, 5, 10] (by decide +kernel) (by decide +kernel)
set_option maxRecDepth 20000 in
theorem gX10_film_X10_isLane : GoodIn wsX10_film (va_wsS RX10 224 yX10_isLane wsX10_isLane) := goodIn_app (goodIn_of _ (by decide +kernel)) ggX10_film_X10_isLane
set_option maxRecDepth 20000 in
theorem ggX10_film_X10_why : GoodIn wsX10_film wsX10_why := goodIn_r _ [18, 19, 20, 26, 27, 28, 29, 30, 31, 32, 33, 34, 35, 36, 37, 38, 39, 40, 41, 42, 43, 44, 45, 46, 47, 48, 49, 50, 51, 52, 53, 54, 55] (by decide +kernel) (by decide +kernel)
set_option maxRecDepth 20000 in
theorem gX10_film_X10_why : GoodIn wsX10_film (wsV RX10 227 RX10 yX10_why wsX10_why) := goodIn_app (goodIn_of _ (by decide +kernel)) ggX10_film_X10_why
set_option maxRecDepth 20000 in
theorem ggX10_film_X10_puts : GoodIn wsX10_film wsX10_puts := goodIn_r _ [24, 19, 25, 26, 27, 28, 29, 30, 31, 32, 33, 34, 35, 36, 37, 38, 39, 40, 41, 42, 43, 44, 45, 46, 47, 48, 49, 50, 51, 52, 53, 54, 55] (by decide +kernel) (by decide +kernel)
set_option maxRecDepth 20000 in
theorem gX10_film_X10_puts : GoodIn wsX10_film (wsV RX10 231 RX10 yX10_puts wsX10_puts) := goodIn_app (goodIn_of _ (by decide +kernel)) ggX10_film_X10_puts
theorem dX10_film_0 : decode cX10_film 0 = .ok (.iload_n 1, 1) := by decide +kernel
theorem dX10_film_1 : decode cX10_film 1 = .ok (.invokestatic 221, 3) := by decide +kernel
theorem dX10_film_4 : decode cX10_film 4 = .ok (.ifCond .eq 10, 3) := by decide +kernel
theorem dX10_film_7 : decode cX10_film 7 = .ok (.iload_n 2, 1) := by decide +kernel
theorem dX10_film_8 : decode cX10_film 8 = .ok (.invokestatic 224, 3) := by decide +kernel
theorem dX10_film_11 : decode cX10_film 11 = .ok (.ifCond .ne 5, 3) := by decide +kernel
theorem dX10_film_14 : decode cX10_film 14 = .ok (.iconst (-1), 1) := by decide +kernel
theorem dX10_film_15 : decode cX10_film 15 = .ok (.ireturn, 1) := by decide +kernel
theorem dX10_film_16 : decode cX10_film 16 = .ok (.aload_n 0, 1) := by decide +kernel
theorem dX10_film_17 : decode cX10_film 17 = .ok (.iload_n 1, 1) := by decide +kernel
theorem dX10_film_18 : decode cX10_film 18 = .ok (.iload_n 2, 1) := by decide +kernel
theorem dX10_film_19 : decode cX10_film 19 = .ok (.iload_n 3, 1) := by decide +kernel
theorem dX10_film_20 : decode cX10_film 20 = .ok (.aload_n 0, 1) := by decide +kernel
theorem dX10_film_21 : decode cX10_film 21 = .ok (.getfield 65, 3) := by decide +kernel
theorem dX10_film_24 : decode cX10_film 24 = .ok (.invokevirtual 227, 3) := by decide +kernel
theorem dX10_film_27 : decode cX10_film 27 = .ok (.istore 4, 2) := by decide +kernel
theorem dX10_film_29 : decode cX10_film 29 = .ok (.iload 4, 2) := by decide +kernel
theorem dX10_film_31 : decode cX10_film 31 = .ok (.ifCond .ge 6, 3) := by decide +kernel
theorem dX10_film_34 : decode cX10_film 34 = .ok (.iload 4, 2) := by decide +kernel
theorem dX10_film_36 : decode cX10_film 36 = .ok (.ireturn, 1) := by decide +kernel
theorem dX10_film_37 : decode cX10_film 37 = .ok (.iconst 0, 1) := by decide +kernel
theorem dX10_film_38 : decode cX10_film 38 = .ok (.istore 5, 2) := by decide +kernel
theorem dX10_film_40 : decode cX10_film 40 = .ok (.iload 5, 2) := by decide +kernel
theorem dX10_film_42 : decode cX10_film 42 = .ok (.aload_n 0, 1) := by decide +kernel
theorem dX10_film_43 : decode cX10_film 43 = .ok (.getfield 65, 3) := by decide +kernel
theorem dX10_film_46 : decode cX10_film 46 = .ok (.if_icmp .ge 26, 3) := by decide +kernel
theorem dX10_film_49 : decode cX10_film 49 = .ok (.aload_n 0, 1) := by decide +kernel
theorem dX10_film_50 : decode cX10_film 50 = .ok (.iload_n 1, 1) := by decide +kernel
theorem dX10_film_51 : decode cX10_film 51 = .ok (.iload_n 3, 1) := by decide +kernel
theorem dX10_film_52 : decode cX10_film 52 = .ok (.iload 5, 2) := by decide +kernel
theorem dX10_film_54 : decode cX10_film 54 = .ok (.iadd, 1) := by decide +kernel
theorem dX10_film_55 : decode cX10_film 55 = .ok (.aload_n 0, 1) := by decide +kernel
theorem dX10_film_56 : decode cX10_film 56 = .ok (.getfield 7, 3) := by decide +kernel
theorem dX10_film_59 : decode cX10_film 59 = .ok (.iload 5, 2) := by decide +kernel
theorem dX10_film_61 : decode cX10_film 61 = .ok (.iaload, 1) := by decide +kernel
theorem dX10_film_62 : decode cX10_film 62 = .ok (.i2l, 1) := by decide +kernel
theorem dX10_film_63 : decode cX10_film 63 = .ok (.invokevirtual 231, 3) := by decide +kernel
theorem dX10_film_66 : decode cX10_film 66 = .ok (.iinc 5 1, 3) := by decide +kernel
theorem dX10_film_69 : decode cX10_film 69 = .ok (.goto (-29), 3) := by decide +kernel
theorem dX10_film_72 : decode cX10_film 72 = .ok (.aload_n 0, 1) := by decide +kernel
theorem dX10_film_73 : decode cX10_film 73 = .ok (.getfield 65, 3) := by decide +kernel
theorem dX10_film_76 : decode cX10_film 76 = .ok (.ireturn, 1) := by decide +kernel
set_option maxRecDepth 20000 in
theorem ggX10_sheet_X10_isSheet : GoodIn wsX10_sheet wsX10_isSheet := goodIn_r _ [7, 8, 9, 10, 6, 11] (by decide +kernel) (by decide +kernel)
set_option maxRecDepth 20000 in
theorem gX10_sheet_X10_isSheet : GoodIn wsX10_sheet (va_wsS RX10 221 yX10_isSheet wsX10_isSheet) := goodIn_app (goodIn_of _ (by decide +kernel)) ggX10_sheet_X10_isSheet
set_option maxRecDepth 20000 in
theorem ggX10_sheet_X10_isLane : GoodIn wsX10_sheet wsX10_isLane := goodIn_r _ [14, 15, 9, 10, 6, 11] (by decide +kernel) (by decide +kernel)
set_option maxRecDepth 20000 in
theorem gX10_sheet_X10_isLane : GoodIn wsX10_sheet (va_wsS RX10 224 yX10_isLane wsX10_isLane) := goodIn_app (goodIn_of _ (by decide +kernel)) ggX10_sheet_X10_isLane
theorem dX10_sheet_0 : decode cX10_sheet 0 = .ok (.iload_n 1, 1) := by decide +kernel
theorem dX10_sheet_1 : decode cX10_sheet 1 = .ok (.invokestatic 221, 3) := by decide +kernel
theorem dX10_sheet_4 : decode cX10_sheet 4 = .ok (.ifCond .eq 16, 3) := by decide +kernel
theorem dX10_sheet_7 : decode cX10_sheet 7 = .ok (.iload_n 2, 1) := by decide +kernel
theorem dX10_sheet_8 : decode cX10_sheet 8 = .ok (.invokestatic 224, 3) := by decide +kernel
theorem dX10_sheet_11 : decode cX10_sheet 11 = .ok (.ifCond .eq 9, 3) := by decide +kernel
theorem dX10_sheet_14 : decode cX10_sheet 14 = .ok (.iload_n 3, 1) := by decide +kernel
theorem dX10_sheet_15 : decode cX10_sheet 15 = .ok (.bipush 16, 2) := by decide +kernel
theorem dX10_sheet_17 : decode cX10_sheet 17 = .ok (.if_icmp .le 5, 3) := by decide +kernel
theorem dX10_sheet_20 : decode cX10_sheet 20 = .ok (.iconst (-1), 1) := by decide +kernel
theorem dX10_sheet_21 : decode cX10_sheet 21 = .ok (.ireturn, 1) := by decide +kernel
theorem dX10_sheet_22 : decode cX10_sheet 22 = .ok (.iload_n 3, 1) := by decide +kernel
theorem dX10_sheet_23 : decode cX10_sheet 23 = .ok (.ifCond .ge 6, 3) := by decide +kernel
theorem dX10_sheet_26 : decode cX10_sheet 26 = .ok (.bipush (-14), 2) := by decide +kernel
theorem dX10_sheet_28 : decode cX10_sheet 28 = .ok (.ireturn, 1) := by decide +kernel
theorem dX10_sheet_29 : decode cX10_sheet 29 = .ok (.aload_n 0, 1) := by decide +kernel
theorem dX10_sheet_30 : decode cX10_sheet 30 = .ok (.getfield 46, 3) := by decide +kernel
theorem dX10_sheet_33 : decode cX10_sheet 33 = .ok (.iload_n 1, 1) := by decide +kernel
theorem dX10_sheet_34 : decode cX10_sheet 34 = .ok (.iload_n 2, 1) := by decide +kernel
theorem dX10_sheet_35 : decode cX10_sheet 35 = .ok (.iastore, 1) := by decide +kernel
theorem dX10_sheet_36 : decode cX10_sheet 36 = .ok (.aload_n 0, 1) := by decide +kernel
theorem dX10_sheet_37 : decode cX10_sheet 37 = .ok (.getfield 49, 3) := by decide +kernel
theorem dX10_sheet_40 : decode cX10_sheet 40 = .ok (.iload_n 1, 1) := by decide +kernel
theorem dX10_sheet_41 : decode cX10_sheet 41 = .ok (.iload_n 3, 1) := by decide +kernel
theorem dX10_sheet_42 : decode cX10_sheet 42 = .ok (.iastore, 1) := by decide +kernel
theorem dX10_sheet_43 : decode cX10_sheet 43 = .ok (.iconst 0, 1) := by decide +kernel
theorem dX10_sheet_44 : decode cX10_sheet 44 = .ok (.istore 4, 2) := by decide +kernel
theorem dX10_sheet_46 : decode cX10_sheet 46 = .ok (.iload 4, 2) := by decide +kernel
theorem dX10_sheet_48 : decode cX10_sheet 48 = .ok (.bipush 16, 2) := by decide +kernel
theorem dX10_sheet_50 : decode cX10_sheet 50 = .ok (.if_icmp .ge 22, 3) := by decide +kernel
theorem dX10_sheet_53 : decode cX10_sheet 53 = .ok (.aload_n 0, 1) := by decide +kernel
theorem dX10_sheet_54 : decode cX10_sheet 54 = .ok (.getfield 52, 3) := by decide +kernel
theorem dX10_sheet_57 : decode cX10_sheet 57 = .ok (.bipush 16, 2) := by decide +kernel
theorem dX10_sheet_59 : decode cX10_sheet 59 = .ok (.iload_n 1, 1) := by decide +kernel
theorem dX10_sheet_60 : decode cX10_sheet 60 = .ok (.imul, 1) := by decide +kernel
theorem dX10_sheet_61 : decode cX10_sheet 61 = .ok (.iload 4, 2) := by decide +kernel
theorem dX10_sheet_63 : decode cX10_sheet 63 = .ok (.iadd, 1) := by decide +kernel
theorem dX10_sheet_64 : decode cX10_sheet 64 = .ok (.lconst 0, 1) := by decide +kernel
theorem dX10_sheet_65 : decode cX10_sheet 65 = .ok (.lastore, 1) := by decide +kernel
theorem dX10_sheet_66 : decode cX10_sheet 66 = .ok (.iinc 4 1, 3) := by decide +kernel
theorem dX10_sheet_69 : decode cX10_sheet 69 = .ok (.goto (-23), 3) := by decide +kernel
theorem dX10_sheet_72 : decode cX10_sheet 72 = .ok (.iload_n 3, 1) := by decide +kernel
theorem dX10_sheet_73 : decode cX10_sheet 73 = .ok (.ireturn, 1) := by decide +kernel
set_option maxRecDepth 20000 in
theorem ggX10_drop_X10_isSheet : GoodIn wsX10_drop wsX10_isSheet := goodIn_r _ [6, 7, 8, 9, 5, 10] (by decide +kernel) (by decide +kernel)
set_option maxRecDepth 20000 in
theorem gX10_drop_X10_isSheet : GoodIn wsX10_drop (va_wsS RX10 221 yX10_isSheet wsX10_isSheet) := goodIn_app (goodIn_of _ (by decide +kernel)) ggX10_drop_X10_isSheet
theorem dX10_drop_0 : decode cX10_drop 0 = .ok (.iload_n 1, 1) := by decide +kernel
theorem dX10_drop_1 : decode cX10_drop 1 = .ok (.invokestatic 221, 3) := by decide +kernel
theorem dX10_drop_4 : decode cX10_drop 4 = .ok (.ifCond .ne 5, 3) := by decide +kernel
theorem dX10_drop_7 : decode cX10_drop 7 = .ok (.iconst (-1), 1) := by decide +kernel
theorem dX10_drop_8 : decode cX10_drop 8 = .ok (.ireturn, 1) := by decide +kernel
theorem dX10_drop_9 : decode cX10_drop 9 = .ok (.aload_n 0, 1) := by decide +kernel
theorem dX10_drop_10 : decode cX10_drop 10 = .ok (.getfield 46, 3) := by decide +kernel
theorem dX10_drop_13 : decode cX10_drop 13 = .ok (.iload_n 1, 1) := by decide +kernel
theorem dX10_drop_14 : decode cX10_drop 14 = .ok (.iaload, 1) := by decide +kernel
theorem dX10_drop_15 : decode cX10_drop 15 = .ok (.ifCond .ge 6, 3) := by decide +kernel
theorem dX10_drop_18 : decode cX10_drop 18 = .ok (.bipush (-11), 2) := by decide +kernel
theorem dX10_drop_20 : decode cX10_drop 20 = .ok (.ireturn, 1) := by decide +kernel
theorem dX10_drop_21 : decode cX10_drop 21 = .ok (.aload_n 0, 1) := by decide +kernel
theorem dX10_drop_22 : decode cX10_drop 22 = .ok (.getfield 46, 3) := by decide +kernel
theorem dX10_drop_25 : decode cX10_drop 25 = .ok (.iload_n 1, 1) := by decide +kernel
theorem dX10_drop_26 : decode cX10_drop 26 = .ok (.iconst (-1), 1) := by decide +kernel
theorem dX10_drop_27 : decode cX10_drop 27 = .ok (.iastore, 1) := by decide +kernel
theorem dX10_drop_28 : decode cX10_drop 28 = .ok (.aload_n 0, 1) := by decide +kernel
theorem dX10_drop_29 : decode cX10_drop 29 = .ok (.getfield 49, 3) := by decide +kernel
theorem dX10_drop_32 : decode cX10_drop 32 = .ok (.iload_n 1, 1) := by decide +kernel
theorem dX10_drop_33 : decode cX10_drop 33 = .ok (.iaload, 1) := by decide +kernel
theorem dX10_drop_34 : decode cX10_drop 34 = .ok (.ireturn, 1) := by decide +kernel
set_option maxRecDepth 20000 in
theorem ggX10_item_X10_isSheet : GoodIn wsX10_item wsX10_isSheet := goodIn_r _ [4, 5, 6, 7, 3, 8] (by decide +kernel) (by decide +kernel)
set_option maxRecDepth 20000 in
theorem gX10_item_X10_isSheet : GoodIn wsX10_item (va_wsS RX10 221 yX10_isSheet wsX10_isSheet) := goodIn_app (goodIn_of _ (by decide +kernel)) ggX10_item_X10_isSheet
set_option maxRecDepth 20000 in
theorem ggX10_item_X10_isLane : GoodIn wsX10_item wsX10_isLane := goodIn_r _ [11, 12, 6, 7, 3, 8] (by decide +kernel) (by decide +kernel)
set_option maxRecDepth 20000 in
theorem gX10_item_X10_isLane : GoodIn wsX10_item (va_wsS RX10 224 yX10_isLane wsX10_isLane) := goodIn_app (goodIn_of _ (by decide +kernel)) ggX10_item_X10_isLane
set_option maxRecDepth 20000 in
theorem ggX10_item_X10_why : GoodIn wsX10_item wsX10_why := goodIn_r _ [16, 17, 18, 24, 25, 26, 27, 28, 29, 30, 31, 32, 33, 34, 35, 36, 37, 38, 39, 40, 41, 42, 43, 44, 45, 46, 47, 48, 49, 50, 51, 52, 53] (by decide +kernel) (by decide +kernel)
set_option maxRecDepth 20000 in
theorem gX10_item_X10_why : GoodIn wsX10_item (wsV RX10 227 RX10 yX10_why wsX10_why) := goodIn_app (goodIn_of _ (by decide +kernel)) ggX10_item_X10_why
set_option maxRecDepth 20000 in
theorem ggX10_item_X10_puts : GoodIn wsX10_item wsX10_puts := goodIn_r _ [22, 17, 23, 24, 25, 26, 27, 28, 29, 30, 31, 32, 33, 34, 35, 36, 37, 38, 39, 40, 41, 42, 43, 44, 45, 46, 47, 48, 49, 50, 51, 52, 53] (by decide +kernel) (by decide +kernel)
set_option maxRecDepth 20000 in
theorem gX10_item_X10_puts : GoodIn wsX10_item (wsV RX10 231 RX10 yX10_puts wsX10_puts) := goodIn_app (goodIn_of _ (by decide +kernel)) ggX10_item_X10_puts
theorem dX10_item_0 : decode cX10_item 0 = .ok (.iload_n 1, 1) := by decide +kernel
theorem dX10_item_1 : decode cX10_item 1 = .ok (.invokestatic 221, 3) := by decide +kernel
theorem dX10_item_4 : decode cX10_item 4 = .ok (.ifCond .eq 10, 3) := by decide +kernel
theorem dX10_item_7 : decode cX10_item 7 = .ok (.iload_n 2, 1) := by decide +kernel
theorem dX10_item_8 : decode cX10_item 8 = .ok (.invokestatic 224, 3) := by decide +kernel
theorem dX10_item_11 : decode cX10_item 11 = .ok (.ifCond .ne 5, 3) := by decide +kernel
theorem dX10_item_14 : decode cX10_item 14 = .ok (.iconst (-1), 1) := by decide +kernel
theorem dX10_item_15 : decode cX10_item 15 = .ok (.ireturn, 1) := by decide +kernel
theorem dX10_item_16 : decode cX10_item 16 = .ok (.aload_n 0, 1) := by decide +kernel
theorem dX10_item_17 : decode cX10_item 17 = .ok (.iload_n 1, 1) := by decide +kernel
theorem dX10_item_18 : decode cX10_item 18 = .ok (.iload_n 2, 1) := by decide +kernel
theorem dX10_item_19 : decode cX10_item 19 = .ok (.iload_n 3, 1) := by decide +kernel
theorem dX10_item_20 : decode cX10_item 20 = .ok (.iconst 1, 1) := by decide +kernel
theorem dX10_item_21 : decode cX10_item 21 = .ok (.invokevirtual 227, 3) := by decide +kernel
theorem dX10_item_24 : decode cX10_item 24 = .ok (.istore 6, 2) := by decide +kernel
theorem dX10_item_26 : decode cX10_item 26 = .ok (.iload 6, 2) := by decide +kernel
theorem dX10_item_28 : decode cX10_item 28 = .ok (.ifCond .ge 6, 3) := by decide +kernel
theorem dX10_item_31 : decode cX10_item 31 = .ok (.iload 6, 2) := by decide +kernel
theorem dX10_item_33 : decode cX10_item 33 = .ok (.ireturn, 1) := by decide +kernel
theorem dX10_item_34 : decode cX10_item 34 = .ok (.aload_n 0, 1) := by decide +kernel
theorem dX10_item_35 : decode cX10_item 35 = .ok (.iload_n 1, 1) := by decide +kernel
theorem dX10_item_36 : decode cX10_item 36 = .ok (.iload_n 3, 1) := by decide +kernel
theorem dX10_item_37 : decode cX10_item 37 = .ok (.lload 4, 2) := by decide +kernel
theorem dX10_item_39 : decode cX10_item 39 = .ok (.invokevirtual 231, 3) := by decide +kernel
theorem dX10_item_42 : decode cX10_item 42 = .ok (.iconst 1, 1) := by decide +kernel
theorem dX10_item_43 : decode cX10_item 43 = .ok (.ireturn, 1) := by decide +kernel
set_option maxRecDepth 20000 in
theorem ggX10_copy_X10_isSheet : GoodIn wsX10_copy wsX10_isSheet := goodIn_r _ [7, 8, 9, 10, 6, 11] (by decide +kernel) (by decide +kernel)
set_option maxRecDepth 20000 in
theorem gX10_copy_X10_isSheet : GoodIn wsX10_copy (va_wsS RX10 221 yX10_isSheet wsX10_isSheet) := goodIn_app (goodIn_of _ (by decide +kernel)) ggX10_copy_X10_isSheet
set_option maxRecDepth 20000 in
theorem ggX10_copy_X10_why : GoodIn wsX10_copy wsX10_why := goodIn_r _ [15, 1, 16, 17, 18, 19, 20, 21, 22, 23, 24, 25, 26, 27, 28, 29, 30, 31, 32, 33, 34, 35, 36, 37, 38, 39, 40, 41, 42, 43, 44, 45, 46] (by decide +kernel) (by decide +kernel)
set_option maxRecDepth 20000 in
theorem gX10_copy_X10_why : GoodIn wsX10_copy (wsV RX10 227 RX10 yX10_why wsX10_why) := goodIn_app (goodIn_of _ (by decide +kernel)) ggX10_copy_X10_why
theorem dX10_copy_0 : decode cX10_copy 0 = .ok (.iload_n 1, 1) := by decide +kernel
theorem dX10_copy_1 : decode cX10_copy 1 = .ok (.invokestatic 221, 3) := by decide +kernel
theorem dX10_copy_4 : decode cX10_copy 4 = .ok (.ifCond .eq 10, 3) := by decide +kernel
theorem dX10_copy_7 : decode cX10_copy 7 = .ok (.iload_n 3, 1) := by decide +kernel
theorem dX10_copy_8 : decode cX10_copy 8 = .ok (.invokestatic 221, 3) := by decide +kernel
theorem dX10_copy_11 : decode cX10_copy 11 = .ok (.ifCond .ne 5, 3) := by decide +kernel
theorem dX10_copy_14 : decode cX10_copy 14 = .ok (.iconst (-1), 1) := by decide +kernel
theorem dX10_copy_15 : decode cX10_copy 15 = .ok (.ireturn, 1) := by decide +kernel
theorem dX10_copy_16 : decode cX10_copy 16 = .ok (.aload_n 0, 1) := by decide +kernel
theorem dX10_copy_17 : decode cX10_copy 17 = .ok (.getfield 46, 3) := by decide +kernel
theorem dX10_copy_20 : decode cX10_copy 20 = .ok (.iload_n 1, 1) := by decide +kernel
theorem dX10_copy_21 : decode cX10_copy 21 = .ok (.iaload, 1) := by decide +kernel
theorem dX10_copy_22 : decode cX10_copy 22 = .ok (.ifCond .lt 12, 3) := by decide +kernel
theorem dX10_copy_25 : decode cX10_copy 25 = .ok (.aload_n 0, 1) := by decide +kernel
theorem dX10_copy_26 : decode cX10_copy 26 = .ok (.getfield 46, 3) := by decide +kernel
theorem dX10_copy_29 : decode cX10_copy 29 = .ok (.iload_n 3, 1) := by decide +kernel
theorem dX10_copy_30 : decode cX10_copy 30 = .ok (.iaload, 1) := by decide +kernel
theorem dX10_copy_31 : decode cX10_copy 31 = .ok (.ifCond .ge 6, 3) := by decide +kernel
theorem dX10_copy_34 : decode cX10_copy 34 = .ok (.bipush (-11), 2) := by decide +kernel
theorem dX10_copy_36 : decode cX10_copy 36 = .ok (.ireturn, 1) := by decide +kernel
theorem dX10_copy_37 : decode cX10_copy 37 = .ok (.aload_n 0, 1) := by decide +kernel
theorem dX10_copy_38 : decode cX10_copy 38 = .ok (.getfield 46, 3) := by decide +kernel
theorem dX10_copy_41 : decode cX10_copy 41 = .ok (.iload_n 1, 1) := by decide +kernel
theorem dX10_copy_42 : decode cX10_copy 42 = .ok (.iaload, 1) := by decide +kernel
theorem dX10_copy_43 : decode cX10_copy 43 = .ok (.aload_n 0, 1) := by decide +kernel
theorem dX10_copy_44 : decode cX10_copy 44 = .ok (.getfield 46, 3) := by decide +kernel
theorem dX10_copy_47 : decode cX10_copy 47 = .ok (.iload_n 3, 1) := by decide +kernel
theorem dX10_copy_48 : decode cX10_copy 48 = .ok (.iaload, 1) := by decide +kernel
theorem dX10_copy_49 : decode cX10_copy 49 = .ok (.if_icmp .eq 6, 3) := by decide +kernel
theorem dX10_copy_52 : decode cX10_copy 52 = .ok (.bipush (-12), 2) := by decide +kernel
theorem dX10_copy_54 : decode cX10_copy 54 = .ok (.ireturn, 1) := by decide +kernel
theorem dX10_copy_55 : decode cX10_copy 55 = .ok (.iload 5, 2) := by decide +kernel
theorem dX10_copy_57 : decode cX10_copy 57 = .ok (.ifCond .lt 38, 3) := by decide +kernel
theorem dX10_copy_60 : decode cX10_copy 60 = .ok (.aload_n 0, 1) := by decide +kernel
theorem dX10_copy_61 : decode cX10_copy 61 = .ok (.iload_n 1, 1) := by decide +kernel
theorem dX10_copy_62 : decode cX10_copy 62 = .ok (.aload_n 0, 1) := by decide +kernel
theorem dX10_copy_63 : decode cX10_copy 63 = .ok (.getfield 46, 3) := by decide +kernel
theorem dX10_copy_66 : decode cX10_copy 66 = .ok (.iload_n 1, 1) := by decide +kernel
theorem dX10_copy_67 : decode cX10_copy 67 = .ok (.iaload, 1) := by decide +kernel
theorem dX10_copy_68 : decode cX10_copy 68 = .ok (.iload_n 2, 1) := by decide +kernel
theorem dX10_copy_69 : decode cX10_copy 69 = .ok (.iload 5, 2) := by decide +kernel
theorem dX10_copy_71 : decode cX10_copy 71 = .ok (.invokevirtual 227, 3) := by decide +kernel
theorem dX10_copy_74 : decode cX10_copy 74 = .ok (.ifCond .lt 21, 3) := by decide +kernel
theorem dX10_copy_77 : decode cX10_copy 77 = .ok (.aload_n 0, 1) := by decide +kernel
theorem dX10_copy_78 : decode cX10_copy 78 = .ok (.iload_n 3, 1) := by decide +kernel
theorem dX10_copy_79 : decode cX10_copy 79 = .ok (.aload_n 0, 1) := by decide +kernel
theorem dX10_copy_80 : decode cX10_copy 80 = .ok (.getfield 46, 3) := by decide +kernel
theorem dX10_copy_83 : decode cX10_copy 83 = .ok (.iload_n 3, 1) := by decide +kernel
theorem dX10_copy_84 : decode cX10_copy 84 = .ok (.iaload, 1) := by decide +kernel
theorem dX10_copy_85 : decode cX10_copy 85 = .ok (.iload 4, 2) := by decide +kernel
theorem dX10_copy_87 : decode cX10_copy 87 = .ok (.iload 5, 2) := by decide +kernel
theorem dX10_copy_89 : decode cX10_copy 89 = .ok (.invokevirtual 227, 3) := by decide +kernel
theorem dX10_copy_92 : decode cX10_copy 92 = .ok (.ifCond .ge 6, 3) := by decide +kernel
theorem dX10_copy_95 : decode cX10_copy 95 = .ok (.bipush (-13), 2) := by decide +kernel
theorem dX10_copy_97 : decode cX10_copy 97 = .ok (.ireturn, 1) := by decide +kernel
theorem dX10_copy_98 : decode cX10_copy 98 = .ok (.iconst 0, 1) := by decide +kernel
theorem dX10_copy_99 : decode cX10_copy 99 = .ok (.istore 6, 2) := by decide +kernel
theorem dX10_copy_101 : decode cX10_copy 101 = .ok (.iload 6, 2) := by decide +kernel
theorem dX10_copy_103 : decode cX10_copy 103 = .ok (.iload 5, 2) := by decide +kernel
theorem dX10_copy_105 : decode cX10_copy 105 = .ok (.if_icmp .ge 30, 3) := by decide +kernel
theorem dX10_copy_108 : decode cX10_copy 108 = .ok (.aload_n 0, 1) := by decide +kernel
theorem dX10_copy_109 : decode cX10_copy 109 = .ok (.getfield 56, 3) := by decide +kernel
theorem dX10_copy_112 : decode cX10_copy 112 = .ok (.iload 6, 2) := by decide +kernel
theorem dX10_copy_114 : decode cX10_copy 114 = .ok (.aload_n 0, 1) := by decide +kernel
theorem dX10_copy_115 : decode cX10_copy 115 = .ok (.getfield 52, 3) := by decide +kernel
theorem dX10_copy_118 : decode cX10_copy 118 = .ok (.bipush 16, 2) := by decide +kernel
theorem dX10_copy_120 : decode cX10_copy 120 = .ok (.iload_n 1, 1) := by decide +kernel
theorem dX10_copy_121 : decode cX10_copy 121 = .ok (.imul, 1) := by decide +kernel
theorem dX10_copy_122 : decode cX10_copy 122 = .ok (.iload_n 2, 1) := by decide +kernel
theorem dX10_copy_123 : decode cX10_copy 123 = .ok (.iadd, 1) := by decide +kernel
theorem dX10_copy_124 : decode cX10_copy 124 = .ok (.iload 6, 2) := by decide +kernel
theorem dX10_copy_126 : decode cX10_copy 126 = .ok (.iadd, 1) := by decide +kernel
theorem dX10_copy_127 : decode cX10_copy 127 = .ok (.laload, 1) := by decide +kernel
theorem dX10_copy_128 : decode cX10_copy 128 = .ok (.lastore, 1) := by decide +kernel
theorem dX10_copy_129 : decode cX10_copy 129 = .ok (.iinc 6 1, 3) := by decide +kernel
theorem dX10_copy_132 : decode cX10_copy 132 = .ok (.goto (-31), 3) := by decide +kernel
theorem dX10_copy_135 : decode cX10_copy 135 = .ok (.iconst 0, 1) := by decide +kernel
theorem dX10_copy_136 : decode cX10_copy 136 = .ok (.istore 6, 2) := by decide +kernel
theorem dX10_copy_138 : decode cX10_copy 138 = .ok (.iload 6, 2) := by decide +kernel
theorem dX10_copy_140 : decode cX10_copy 140 = .ok (.iload 5, 2) := by decide +kernel
theorem dX10_copy_142 : decode cX10_copy 142 = .ok (.if_icmp .ge 31, 3) := by decide +kernel
theorem dX10_copy_145 : decode cX10_copy 145 = .ok (.aload_n 0, 1) := by decide +kernel
theorem dX10_copy_146 : decode cX10_copy 146 = .ok (.getfield 52, 3) := by decide +kernel
theorem dX10_copy_149 : decode cX10_copy 149 = .ok (.bipush 16, 2) := by decide +kernel
theorem dX10_copy_151 : decode cX10_copy 151 = .ok (.iload_n 3, 1) := by decide +kernel
theorem dX10_copy_152 : decode cX10_copy 152 = .ok (.imul, 1) := by decide +kernel
theorem dX10_copy_153 : decode cX10_copy 153 = .ok (.iload 4, 2) := by decide +kernel
theorem dX10_copy_155 : decode cX10_copy 155 = .ok (.iadd, 1) := by decide +kernel
theorem dX10_copy_156 : decode cX10_copy 156 = .ok (.iload 6, 2) := by decide +kernel
theorem dX10_copy_158 : decode cX10_copy 158 = .ok (.iadd, 1) := by decide +kernel
theorem dX10_copy_159 : decode cX10_copy 159 = .ok (.aload_n 0, 1) := by decide +kernel
theorem dX10_copy_160 : decode cX10_copy 160 = .ok (.getfield 56, 3) := by decide +kernel
theorem dX10_copy_163 : decode cX10_copy 163 = .ok (.iload 6, 2) := by decide +kernel
theorem dX10_copy_165 : decode cX10_copy 165 = .ok (.laload, 1) := by decide +kernel
theorem dX10_copy_166 : decode cX10_copy 166 = .ok (.lastore, 1) := by decide +kernel
theorem dX10_copy_167 : decode cX10_copy 167 = .ok (.iinc 6 1, 3) := by decide +kernel
theorem dX10_copy_170 : decode cX10_copy 170 = .ok (.goto (-32), 3) := by decide +kernel
theorem dX10_copy_173 : decode cX10_copy 173 = .ok (.iload 5, 2) := by decide +kernel
theorem dX10_copy_175 : decode cX10_copy 175 = .ok (.ireturn, 1) := by decide +kernel
