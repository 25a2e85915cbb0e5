set_option maxRecDepth 20000 in
theorem ggX3_look_X4_become : GoodIn wsX3_look wsX4_become := goodIn_r _ [9, 10, 11, 12, 13, 14, 15, 16, 8, 17, 80, 81, 82, 83] (by decide +kernel) (by decide +kernel)
set_option maxRecDepth 20000 in
theorem gX3_look_X4_become : GoodIn wsX3_look (wsV RX3 44 RX4 yX4_become wsX4_become) := goodIn_app (goodIn_of _ (by decide +kernel)) ggX3_look_X4_become
set_option maxRecDepth 20000 in
theorem ggX3_look_X4_pass : GoodIn wsX3_look wsX4_pass := goodIn_r _ [21, 12, 13, 11, 10, 22, 23, 24, 25, 26, 27, 28, 29, 30, 31, 32, 33, 34, 35, 36, 37, 38, 39, 40, 41, 42, 43, 44, 45, 46, 47, 48, 49, 50, 51, 52, 53, 54, 55, 56, 57, 58, 59, 8, 60, 61, 62, 63, 64, 65, 66, 67, 68, 69, 80, 81, 82, 83, 84, 85, 86, 87, 88, 89, 90, 91] (by decide +kernel) (by decide +kernel)
set_option maxRecDepth 20000 in
theorem gX3_look_X4_pass : GoodIn wsX3_look (wsV RX3 47 RX4 yX4_pass wsX4_pass) := goodIn_app (goodIn_of _ (by decide +kernel)) ggX3_look_X4_pass
theorem dX3_look_0 : decode cX3_look 0 = .ok (.aload_n 0, 1) := by decide +kernel
theorem dX3_look_1 : decode cX3_look 1 = .ok (.getfield 10, 3) := by decide +kernel
theorem dX3_look_4 : decode cX3_look 4 = .ok (.aload_n 1, 1) := by decide +kernel
theorem dX3_look_5 : decode cX3_look 5 = .ok (.getfield 43, 3) := by decide +kernel
theorem dX3_look_8 : decode cX3_look 8 = .ok (.invokevirtual 44, 3) := by decide +kernel
theorem dX3_look_11 : decode cX3_look 11 = .ok (.aload_n 0, 1) := by decide +kernel
theorem dX3_look_12 : decode cX3_look 12 = .ok (.getfield 10, 3) := by decide +kernel
theorem dX3_look_15 : decode cX3_look 15 = .ok (.aload_n 0, 1) := by decide +kernel
theorem dX3_look_16 : decode cX3_look 16 = .ok (.getfield 19, 3) := by decide +kernel
theorem dX3_look_19 : decode cX3_look 19 = .ok (.aload_n 0, 1) := by decide +kernel
theorem dX3_look_20 : decode cX3_look 20 = .ok (.getfield 26, 3) := by decide +kernel
theorem dX3_look_23 : decode cX3_look 23 = .ok (.invokevirtual 47, 3) := by decide +kernel
theorem dX3_look_26 : decode cX3_look 26 = .ok (.pop, 1) := by decide +kernel
theorem dX3_look_27 : decode cX3_look 27 = .ok (.return_, 1) := by decide +kernel
set_option maxRecDepth 20000 in
theorem ggX3_stepsThen_X3_look : GoodIn wsX3_stepsThen wsX3_look := goodIn_r _ [10, 1, 11, 12, 13, 14, 15, 16, 17, 18, 19, 20, 21, 22, 23, 24, 25, 26, 27, 28, 29, 30, 31, 32, 33, 34, 35, 36, 37, 38, 39, 40, 41, 42, 43, 44, 45, 46, 47, 48, 49, 50, 51, 52, 53, 54, 55, 56, 57, 58, 59, 60, 61, 62, 63, 64, 65, 66, 67, 68, 69, 70, 71, 72, 73, 74, 75, 76, 77, 78, 97, 98, 99, 100, 101, 102, 103, 104, 105, 106, 107, 108, 109, 110, 111, 112, 113, 114, 115, 116, 117, 118] (by decide +kernel) (by decide +kernel)
set_option maxRecDepth 20000 in
theorem gX3_stepsThen_X3_look : GoodIn wsX3_stepsThen (wsV RX3 51 RX3 yX3_look wsX3_look) := goodIn_app (goodIn_of _ (by decide +kernel)) ggX3_stepsThen_X3_look
set_option maxRecDepth 20000 in
theorem ggX3_stepsThen_X4_walkable : GoodIn wsX3_stepsThen wsX4_walkable := goodIn_r _ [82, 83, 84, 85, 17, 86, 22, 87, 19, 21, 20, 77, 65, 78, 107, 108, 109, 110] (by decide +kernel) (by decide +kernel)
set_option maxRecDepth 20000 in
theorem gX3_stepsThen_X4_walkable : GoodIn wsX3_stepsThen (wsV RX3 55 RX4 yX4_walkable wsX4_walkable) := goodIn_app (goodIn_of _ (by decide +kernel)) ggX3_stepsThen_X4_walkable
set_option maxRecDepth 20000 in
theorem ggX3_stepsThen_X9_steps : GoodIn wsX3_stepsThen wsX9_steps := goodIn_r _ [89, 90, 77, 65, 78, 91, 92, 93, 94, 95, 96] (by decide +kernel) (by decide +kernel)
set_option maxRecDepth 20000 in
theorem gX3_stepsThen_X9_steps_n66 : GoodIn wsX3_stepsThen (wsX9_steps) := ggX3_stepsThen_X9_steps
theorem dX3_stepsThen_0 : decode cX3_stepsThen 0 = .ok (.aload_n 0, 1) := by decide +kernel
theorem dX3_stepsThen_1 : decode cX3_stepsThen 1 = .ok (.aload_n 1, 1) := by decide +kernel
theorem dX3_stepsThen_2 : decode cX3_stepsThen 2 = .ok (.invokevirtual 51, 3) := by decide +kernel
theorem dX3_stepsThen_5 : decode cX3_stepsThen 5 = .ok (.aload_n 0, 1) := by decide +kernel
theorem dX3_stepsThen_6 : decode cX3_stepsThen 6 = .ok (.getfield 10, 3) := by decide +kernel
theorem dX3_stepsThen_9 : decode cX3_stepsThen 9 = .ok (.invokevirtual 55, 3) := by decide +kernel
theorem dX3_stepsThen_12 : decode cX3_stepsThen 12 = .ok (.lstore 4, 2) := by decide +kernel
theorem dX3_stepsThen_14 : decode cX3_stepsThen 14 = .ok (.lload 4, 2) := by decide +kernel
theorem dX3_stepsThen_16 : decode cX3_stepsThen 16 = .ok (.aload_n 0, 1) := by decide +kernel
theorem dX3_stepsThen_17 : decode cX3_stepsThen 17 = .ok (.getfield 32, 3) := by decide +kernel
theorem dX3_stepsThen_20 : decode cX3_stepsThen 20 = .ok (.lcmp, 1) := by decide +kernel
theorem dX3_stepsThen_21 : decode cX3_stepsThen 21 = .ok (.ifCond .ne 19, 3) := by decide +kernel
theorem dX3_stepsThen_24 : decode cX3_stepsThen 24 = .ok (.iload_n 2, 1) := by decide +kernel
theorem dX3_stepsThen_25 : decode cX3_stepsThen 25 = .ok (.aload_n 0, 1) := by decide +kernel
theorem dX3_stepsThen_26 : decode cX3_stepsThen 26 = .ok (.getfield 59, 3) := by decide +kernel
theorem dX3_stepsThen_29 : decode cX3_stepsThen 29 = .ok (.if_icmp .ne 11, 3) := by decide +kernel
theorem dX3_stepsThen_32 : decode cX3_stepsThen 32 = .ok (.iload_n 3, 1) := by decide +kernel
theorem dX3_stepsThen_33 : decode cX3_stepsThen 33 = .ok (.aload_n 0, 1) := by decide +kernel
theorem dX3_stepsThen_34 : decode cX3_stepsThen 34 = .ok (.getfield 63, 3) := by decide +kernel
theorem dX3_stepsThen_37 : decode cX3_stepsThen 37 = .ok (.if_icmp .eq 30, 3) := by decide +kernel
theorem dX3_stepsThen_40 : decode cX3_stepsThen 40 = .ok (.aload_n 0, 1) := by decide +kernel
theorem dX3_stepsThen_41 : decode cX3_stepsThen 41 = .ok (.lload 4, 2) := by decide +kernel
theorem dX3_stepsThen_43 : decode cX3_stepsThen 43 = .ok (.putfield 32, 3) := by decide +kernel
theorem dX3_stepsThen_46 : decode cX3_stepsThen 46 = .ok (.aload_n 0, 1) := by decide +kernel
theorem dX3_stepsThen_47 : decode cX3_stepsThen 47 = .ok (.iload_n 2, 1) := by decide +kernel
theorem dX3_stepsThen_48 : decode cX3_stepsThen 48 = .ok (.putfield 59, 3) := by decide +kernel
theorem dX3_stepsThen_51 : decode cX3_stepsThen 51 = .ok (.aload_n 0, 1) := by decide +kernel
theorem dX3_stepsThen_52 : decode cX3_stepsThen 52 = .ok (.iload_n 3, 1) := by decide +kernel
theorem dX3_stepsThen_53 : decode cX3_stepsThen 53 = .ok (.putfield 63, 3) := by decide +kernel
theorem dX3_stepsThen_56 : decode cX3_stepsThen 56 = .ok (.aload_n 0, 1) := by decide +kernel
theorem dX3_stepsThen_57 : decode cX3_stepsThen 57 = .ok (.lload 4, 2) := by decide +kernel
theorem dX3_stepsThen_59 : decode cX3_stepsThen 59 = .ok (.iload_n 2, 1) := by decide +kernel
theorem dX3_stepsThen_60 : decode cX3_stepsThen 60 = .ok (.iload_n 3, 1) := by decide +kernel
theorem dX3_stepsThen_61 : decode cX3_stepsThen 61 = .ok (.invokestatic 66, 3) := by decide +kernel
theorem dX3_stepsThen_64 : decode cX3_stepsThen 64 = .ok (.putfield 72, 3) := by decide +kernel
theorem dX3_stepsThen_67 : decode cX3_stepsThen 67 = .ok (.aload_n 0, 1) := by decide +kernel
theorem dX3_stepsThen_68 : decode cX3_stepsThen 68 = .ok (.getfield 72, 3) := by decide +kernel
theorem dX3_stepsThen_71 : decode cX3_stepsThen 71 = .ok (.ireturn, 1) := by decide +kernel
theorem dX4_init_0 : decode cX4_init 0 = .ok (.aload_n 0, 1) := by decide +kernel
theorem dX4_init_1 : decode cX4_init 1 = .ok (.invokespecial 3, 3) := by decide +kernel
theorem dX4_init_4 : decode cX4_init 4 = .ok (.aload_n 0, 1) := by decide +kernel
theorem dX4_init_5 : decode cX4_init 5 = .ok (.bipush 6, 2) := by decide +kernel
theorem dX4_init_7 : decode cX4_init 7 = .ok (.newarray .int, 2) := by decide +kernel
theorem dX4_init_9 : decode cX4_init 9 = .ok (.putfield 9, 3) := by decide +kernel
theorem dX4_init_12 : decode cX4_init 12 = .ok (.return_, 1) := by decide +kernel
set_option maxRecDepth 20000 in
theorem ggX4_become_X4_lay : GoodIn wsX4_become wsX4_lay := goodIn_r _ [9, 1, 3, 2, 10, 11, 12, 13] (by decide +kernel) (by decide +kernel)
set_option maxRecDepth 20000 in
theorem gX4_become_X4_lay : GoodIn wsX4_become (wsV RX4 23 RX4 yX4_lay wsX4_lay) := goodIn_app (goodIn_of _ (by decide +kernel)) ggX4_become_X4_lay
theorem dX4_become_0 : decode cX4_become 0 = .ok (.aload_n 0, 1) := by decide +kernel
theorem dX4_become_1 : decode cX4_become 1 = .ok (.aload_n 1, 1) := by decide +kernel
theorem dX4_become_2 : decode cX4_become 2 = .ok (.getfield 15, 3) := by decide +kernel
theorem dX4_become_5 : decode cX4_become 5 = .ok (.aload_n 1, 1) := by decide +kernel
theorem dX4_become_6 : decode cX4_become 6 = .ok (.getfield 9, 3) := by decide +kernel
theorem dX4_become_9 : decode cX4_become 9 = .ok (.aload_n 1, 1) := by decide +kernel
theorem dX4_become_10 : decode cX4_become 10 = .ok (.getfield 19, 3) := by decide +kernel
theorem dX4_become_13 : decode cX4_become 13 = .ok (.invokevirtual 23, 3) := by decide +kernel
theorem dX4_become_16 : decode cX4_become 16 = .ok (.aload_n 0, 1) := by decide +kernel
theorem dX4_become_17 : decode cX4_become 17 = .ok (.aload_n 1, 1) := by decide +kernel
theorem dX4_become_18 : decode cX4_become 18 = .ok (.getfield 27, 3) := by decide +kernel
theorem dX4_become_21 : decode cX4_become 21 = .ok (.putfield 27, 3) := by decide +kernel
theorem dX4_become_24 : decode cX4_become 24 = .ok (.return_, 1) := by decide +kernel
theorem dX4_lay_0 : decode cX4_lay 0 = .ok (.aload_n 0, 1) := by decide +kernel
theorem dX4_lay_1 : decode cX4_lay 1 = .ok (.lload_n 1, 1) := by decide +kernel
theorem dX4_lay_2 : decode cX4_lay 2 = .ok (.putfield 15, 3) := by decide +kernel
theorem dX4_lay_5 : decode cX4_lay 5 = .ok (.aload_n 0, 1) := by decide +kernel
theorem dX4_lay_6 : decode cX4_lay 6 = .ok (.iload 4, 2) := by decide +kernel
theorem dX4_lay_8 : decode cX4_lay 8 = .ok (.putfield 19, 3) := by decide +kernel
theorem dX4_lay_11 : decode cX4_lay 11 = .ok (.iconst 0, 1) := by decide +kernel
theorem dX4_lay_12 : decode cX4_lay 12 = .ok (.istore 5, 2) := by decide +kernel
theorem dX4_lay_14 : decode cX4_lay 14 = .ok (.iload 5, 2) := by decide +kernel
theorem dX4_lay_16 : decode cX4_lay 16 = .ok (.iload 4, 2) := by decide +kernel
theorem dX4_lay_18 : decode cX4_lay 18 = .ok (.if_icmp .ge 20, 3) := by decide +kernel
theorem dX4_lay_21 : decode cX4_lay 21 = .ok (.aload_n 0, 1) := by decide +kernel
theorem dX4_lay_22 : decode cX4_lay 22 = .ok (.getfield 9, 3) := by decide +kernel
theorem dX4_lay_25 : decode cX4_lay 25 = .ok (.iload 5, 2) := by decide +kernel
theorem dX4_lay_27 : decode cX4_lay 27 = .ok (.aload_n 3, 1) := by decide +kernel
theorem dX4_lay_28 : decode cX4_lay 28 = .ok (.iload 5, 2) := by decide +kernel
theorem dX4_lay_30 : decode cX4_lay 30 = .ok (.iaload, 1) := by decide +kernel
theorem dX4_lay_31 : decode cX4_lay 31 = .ok (.iastore, 1) := by decide +kernel
theorem dX4_lay_32 : decode cX4_lay 32 = .ok (.iinc 5 1, 3) := by decide +kernel
theorem dX4_lay_35 : decode cX4_lay 35 = .ok (.goto (-21), 3) := by decide +kernel
theorem dX4_lay_38 : decode cX4_lay 38 = .ok (.return_, 1) := by decide +kernel
set_option maxRecDepth 20000 in
theorem ggX4_isFirm_X9_bit : GoodIn wsX4_isFirm wsX9_bit := goodIn_r _ [4] (by decide +kernel) (by decide +kernel)
set_option maxRecDepth 20000 in
theorem gX4_isFirm_X9_bit_n30 : GoodIn wsX4_isFirm (wsX9_bit) := ggX4_isFirm_X9_bit
theorem dX4_isFirm_0 : decode cX4_isFirm 0 = .ok (.aload_n 0, 1) := by decide +kernel
theorem dX4_isFirm_1 : decode cX4_isFirm 1 = .ok (.getfield 15, 3) := by decide +kernel
theorem dX4_isFirm_4 : decode cX4_isFirm 4 = .ok (.iload_n 1, 1) := by decide +kernel
theorem dX4_isFirm_5 : decode cX4_isFirm 5 = .ok (.invokestatic 30, 3) := by decide +kernel
theorem dX4_isFirm_8 : decode cX4_isFirm 8 = .ok (.land, 1) := by decide +kernel
theorem dX4_isFirm_9 : decode cX4_isFirm 9 = .ok (.lconst 0, 1) := by decide +kernel
theorem dX4_isFirm_10 : decode cX4_isFirm 10 = .ok (.lcmp, 1) := by decide +kernel
theorem dX4_isFirm_11 : decode cX4_isFirm 11 = .ok (.ifCond .eq 7, 3) := by decide +kernel
theorem dX4_isFirm_14 : decode cX4_isFirm 14 = .ok (.iconst 1, 1) := by decide +kernel
theorem dX4_isFirm_15 : decode cX4_isFirm 15 = .ok (.goto 4, 3) := by decide +kernel
theorem dX4_isFirm_18 : decode cX4_isFirm 18 = .ok (.iconst 0, 1) := by decide +kernel
theorem dX4_isFirm_19 : decode cX4_isFirm 19 = .ok (.ireturn, 1) := by decide +kernel
theorem dX4_tuftsIn_0 : decode cX4_tuftsIn 0 = .ok (.iconst 0, 1) := by decide +kernel
theorem dX4_tuftsIn_1 : decode cX4_tuftsIn 1 = .ok (.istore_n 2, 1) := by decide +kernel
theorem dX4_tuftsIn_2 : decode cX4_tuftsIn 2 = .ok (.iconst 0, 1) := by decide +kernel
theorem dX4_tuftsIn_3 : decode cX4_tuftsIn 3 = .ok (.istore_n 3, 1) := by decide +kernel
theorem dX4_tuftsIn_4 : decode cX4_tuftsIn 4 = .ok (.iload_n 3, 1) := by decide +kernel
theorem dX4_tuftsIn_5 : decode cX4_tuftsIn 5 = .ok (.aload_n 0, 1) := by decide +kernel
theorem dX4_tuftsIn_6 : decode cX4_tuftsIn 6 = .ok (.getfield 19, 3) := by decide +kernel
theorem dX4_tuftsIn_9 : decode cX4_tuftsIn 9 = .ok (.if_icmp .ge 22, 3) := by decide +kernel
theorem dX4_tuftsIn_12 : decode cX4_tuftsIn 12 = .ok (.aload_n 0, 1) := by decide +kernel
theorem dX4_tuftsIn_13 : decode cX4_tuftsIn 13 = .ok (.getfield 9, 3) := by decide +kernel
theorem dX4_tuftsIn_16 : decode cX4_tuftsIn 16 = .ok (.iload_n 3, 1) := by decide +kernel
theorem dX4_tuftsIn_17 : decode cX4_tuftsIn 17 = .ok (.iaload, 1) := by decide +kernel
theorem dX4_tuftsIn_18 : decode cX4_tuftsIn 18 = .ok (.iload_n 1, 1) := by decide +kernel
theorem dX4_tuftsIn_19 : decode cX4_tuftsIn 19 = .ok (.if_icmp .ne 6, 3) := by decide +kernel
theorem dX4_tuftsIn_22 : decode cX4_tuftsIn 22 = .ok (.iinc 2 1, 3) := by decide +kernel
theorem dX4_tuftsIn_25 : decode cX4_tuftsIn 25 = .ok (.iinc 3 1, 3) := by decide +kernel
theorem dX4_tuftsIn_28 : decode cX4_tuftsIn 28 = .ok (.goto (-24), 3) := by decide +kernel
theorem dX4_tuftsIn_31 : decode cX4_tuftsIn 31 = .ok (.iload_n 2, 1) := by decide +kernel
theorem dX4_tuftsIn_32 : decode cX4_tuftsIn 32 = .ok (.ireturn, 1) := by decide +kernel
set_option maxRecDepth 20000 in
theorem ggX4_walkable_X4_walkableWithout : GoodIn wsX4_walkable wsX4_walkableWithout := goodIn_r _ [5, 6, 7, 8, 9, 10, 11, 12, 13, 14, 15, 16, 17] (by decide +kernel) (by decide +kernel)
set_option maxRecDepth 20000 in
theorem gX4_walkable_X4_walkableWithout : GoodIn wsX4_walkable (wsV RX4 34 RX4 yX4_walkableWithout wsX4_walkableWithout) := goodIn_app (goodIn_of _ (by decide +kernel)) ggX4_walkable_X4_walkableWithout
theorem dX4_walkable_0 : decode cX4_walkable 0 = .ok (.aload_n 0, 1) := by decide +kernel
theorem dX4_walkable_1 : decode cX4_walkable 1 = .ok (.iconst (-1), 1) := by decide +kernel
theorem dX4_walkable_2 : decode cX4_walkable 2 = .ok (.invokevirtual 34, 3) := by decide +kernel
theorem dX4_walkable_5 : decode cX4_walkable 5 = .ok (.lreturn, 1) := by decide +kernel
set_option maxRecDepth 20000 in
theorem ggX4_walkableWithout_X9_bit : GoodIn wsX4_walkableWithout wsX9_bit := goodIn_r _ [8] (by decide +kernel) (by decide +kernel)
set_option maxRecDepth 20000 in
theorem gX4_walkableWithout_X9_bit_n30 : GoodIn wsX4_walkableWithout (wsX9_bit) := ggX4_walkableWithout_X9_bit
theorem dX4_walkableWithout_0 : decode cX4_walkableWithout 0 = .ok (.aload_n 0, 1) := by decide +kernel
theorem dX4_walkableWithout_1 : decode cX4_walkableWithout 1 = .ok (.getfield 27, 3) := by decide +kernel
theorem dX4_walkableWithout_4 : decode cX4_walkableWithout 4 = .ok (.ifCond .le 7, 3) := by decide +kernel
theorem dX4_walkableWithout_7 : decode cX4_walkableWithout 7 = .ok (.ldc2_w 37, 3) := by decide +kernel
theorem dX4_walkableWithout_10 : decode cX4_walkableWithout 10 = .ok (.lreturn, 1) := by decide +kernel
theorem dX4_walkableWithout_11 : decode cX4_walkableWithout 11 = .ok (.aload_n 0, 1) := by decide +kernel
theorem dX4_walkableWithout_12 : decode cX4_walkableWithout 12 = .ok (.getfield 15, 3) := by decide +kernel
theorem dX4_walkableWithout_15 : decode cX4_walkableWithout 15 = .ok (.lstore_n 2, 1) := by decide +kernel
theorem dX4_walkableWithout_16 : decode cX4_walkableWithout 16 = .ok (.iconst 0, 1) := by decide +kernel
theorem dX4_walkableWithout_17 : decode cX4_walkableWithout 17 = .ok (.istore 4, 2) := by decide +kernel
theorem dX4_walkableWithout_19 : decode cX4_walkableWithout 19 = .ok (.iload 4, 2) := by decide +kernel
theorem dX4_walkableWithout_21 : decode cX4_walkableWithout 21 = .ok (.aload_n 0, 1) := by decide +kernel
theorem dX4_walkableWithout_22 : decode cX4_walkableWithout 22 = .ok (.getfield 19, 3) := by decide +kernel
theorem dX4_walkableWithout_25 : decode cX4_walkableWithout 25 = .ok (.if_icmp .ge 28, 3) := by decide +kernel
theorem dX4_walkableWithout_28 : decode cX4_walkableWithout 28 = .ok (.iload 4, 2) := by decide +kernel
theorem dX4_walkableWithout_30 : decode cX4_walkableWithout 30 = .ok (.iload_n 1, 1) := by decide +kernel
theorem dX4_walkableWithout_31 : decode cX4_walkableWithout 31 = .ok (.if_icmp .eq 16, 3) := by decide +kernel
theorem dX4_walkableWithout_34 : decode cX4_walkableWithout 34 = .ok (.lload_n 2, 1) := by decide +kernel
theorem dX4_walkableWithout_35 : decode cX4_walkableWithout 35 = .ok (.aload_n 0, 1) := by decide +kernel
theorem dX4_walkableWithout_36 : decode cX4_walkableWithout 36 = .ok (.getfield 9, 3) := by decide +kernel
theorem dX4_walkableWithout_39 : decode cX4_walkableWithout 39 = .ok (.iload 4, 2) := by decide +kernel
theorem dX4_walkableWithout_41 : decode cX4_walkableWithout 41 = .ok (.iaload, 1) := by decide +kernel
theorem dX4_walkableWithout_42 : decode cX4_walkableWithout 42 = .ok (.invokestatic 30, 3) := by decide +kernel
theorem dX4_walkableWithout_45 : decode cX4_walkableWithout 45 = .ok (.lor, 1) := by decide +kernel
theorem dX4_walkableWithout_46 : decode cX4_walkableWithout 46 = .ok (.lstore_n 2, 1) := by decide +kernel
theorem dX4_walkableWithout_47 : decode cX4_walkableWithout 47 = .ok (.iinc 4 1, 3) := by decide +kernel
theorem dX4_walkableWithout_50 : decode cX4_walkableWithout 50 = .ok (.goto (-31), 3) := by decide +kernel
theorem dX4_walkableWithout_53 : decode cX4_walkableWithout 53 = .ok (.lload_n 2, 1) := by decide +kernel
theorem dX4_walkableWithout_54 : decode cX4_walkableWithout 54 = .ok (.lreturn, 1) := by decide +kernel
set_option maxRecDepth 20000 in
theorem ggX4_pass_X5_gather : GoodIn wsX4_pass wsX5_gather := goodIn_r _ [13, 14, 15, 16, 17, 18, 19, 20, 21, 22, 23, 24, 25, 26, 27, 28, 29, 30, 12, 31, 32, 33, 58, 59, 60, 61, 62, 63, 64, 65] (by decide +kernel) (by decide +kernel)
set_option maxRecDepth 20000 in
theorem gX4_pass_X5_gather : GoodIn wsX4_pass (wsV RX4 39 RX5 yX5_gather wsX5_gather) := goodIn_app (goodIn_of _ (by decide +kernel)) ggX4_pass_X5_gather
set_option maxRecDepth 20000 in
theorem ggX4_pass_X5_goal : GoodIn wsX4_pass wsX5_goal := goodIn_r _ [37, 14, 33, 32, 38, 39, 40, 58, 59, 60] (by decide +kernel) (by decide +kernel)
set_option maxRecDepth 20000 in
theorem gX4_pass_X5_goal : GoodIn wsX4_pass (wsV RX4 45 RX5 yX5_goal wsX5_goal) := goodIn_app (goodIn_of _ (by decide +kernel)) ggX4_pass_X5_goal
set_option maxRecDepth 20000 in
theorem ggX4_pass_X4_oneCell : GoodIn wsX4_pass wsX4_oneCell := goodIn_r _ [44] (by decide +kernel) (by decide +kernel)
set_option maxRecDepth 20000 in
theorem gX4_pass_X4_oneCell : GoodIn wsX4_pass (va_wsS RX4 49 yX4_oneCell wsX4_oneCell) := goodIn_app (goodIn_of _ (by decide +kernel)) ggX4_pass_X4_oneCell
set_option maxRecDepth 20000 in
theorem ggX4_pass_X1_strangerCells : GoodIn wsX4_pass wsX1_strangerCells := goodIn_r _ [48, 49, 27, 50, 51, 18, 19, 20, 21, 22, 52, 39, 53, 61, 62, 63, 64, 65] (by decide +kernel) (by decide +kernel)
set_option maxRecDepth 20000 in
theorem gX4_pass_X1_strangerCells : GoodIn wsX4_pass (wsV RX4 53 RX1 yX1_strangerCells wsX1_strangerCells) := goodIn_app (goodIn_of _ (by decide +kernel)) ggX4_pass_X1_strangerCells
theorem dX4_pass_0 : decode cX4_pass 0 = .ok (.aload_n 2, 1) := by decide +kernel
theorem dX4_pass_1 : decode cX4_pass 1 = .ok (.aload_n 1, 1) := by decide +kernel
theorem dX4_pass_2 : decode cX4_pass 2 = .ok (.invokevirtual 39, 3) := by decide +kernel
theorem dX4_pass_5 : decode cX4_pass 5 = .ok (.iconst 0, 1) := by decide +kernel
theorem dX4_pass_6 : decode cX4_pass 6 = .ok (.istore_n 3, 1) := by decide +kernel
theorem dX4_pass_7 : decode cX4_pass 7 = .ok (.iconst 0, 1) := by decide +kernel
theorem dX4_pass_8 : decode cX4_pass 8 = .ok (.istore 4, 2) := by decide +kernel
theorem dX4_pass_10 : decode cX4_pass 10 = .ok (.iload 4, 2) := by decide +kernel
theorem dX4_pass_12 : decode cX4_pass 12 = .ok (.aload_n 0, 1) := by decide +kernel
theorem dX4_pass_13 : decode cX4_pass 13 = .ok (.getfield 19, 3) := by decide +kernel
theorem dX4_pass_16 : decode cX4_pass 16 = .ok (.if_icmp .ge 57, 3) := by decide +kernel
theorem dX4_pass_19 : decode cX4_pass 19 = .ok (.aload_n 0, 1) := by decide +kernel
theorem dX4_pass_20 : decode cX4_pass 20 = .ok (.getfield 27, 3) := by decide +kernel
theorem dX4_pass_23 : decode cX4_pass 23 = .ok (.ifCond .ne 50, 3) := by decide +kernel
theorem dX4_pass_26 : decode cX4_pass 26 = .ok (.aload_n 0, 1) := by decide +kernel
theorem dX4_pass_27 : decode cX4_pass 27 = .ok (.getfield 9, 3) := by decide +kernel
theorem dX4_pass_30 : decode cX4_pass 30 = .ok (.iload 4, 2) := by decide +kernel
theorem dX4_pass_32 : decode cX4_pass 32 = .ok (.iaload, 1) := by decide +kernel
theorem dX4_pass_33 : decode cX4_pass 33 = .ok (.istore 5, 2) := by decide +kernel
theorem dX4_pass_35 : decode cX4_pass 35 = .ok (.aload_n 2, 1) := by decide +kernel
theorem dX4_pass_36 : decode cX4_pass 36 = .ok (.iload 5, 2) := by decide +kernel
theorem dX4_pass_38 : decode cX4_pass 38 = .ok (.invokevirtual 45, 3) := by decide +kernel
theorem dX4_pass_41 : decode cX4_pass 41 = .ok (.istore 6, 2) := by decide +kernel
theorem dX4_pass_43 : decode cX4_pass 43 = .ok (.iload 6, 2) := by decide +kernel
theorem dX4_pass_45 : decode cX4_pass 45 = .ok (.iload 5, 2) := by decide +kernel
theorem dX4_pass_47 : decode cX4_pass 47 = .ok (.if_icmp .eq 20, 3) := by decide +kernel
theorem dX4_pass_50 : decode cX4_pass 50 = .ok (.aload_n 0, 1) := by decide +kernel
theorem dX4_pass_51 : decode cX4_pass 51 = .ok (.getfield 9, 3) := by decide +kernel
theorem dX4_pass_54 : decode cX4_pass 54 = .ok (.iload 4, 2) := by decide +kernel
theorem dX4_pass_56 : decode cX4_pass 56 = .ok (.iload 5, 2) := by decide +kernel
theorem dX4_pass_58 : decode cX4_pass 58 = .ok (.iload 6, 2) := by decide +kernel
theorem dX4_pass_60 : decode cX4_pass 60 = .ok (.invokestatic 49, 3) := by decide +kernel
theorem dX4_pass_63 : decode cX4_pass 63 = .ok (.iastore, 1) := by decide +kernel
theorem dX4_pass_64 : decode cX4_pass 64 = .ok (.iinc 3 1, 3) := by decide +kernel
theorem dX4_pass_67 : decode cX4_pass 67 = .ok (.iinc 4 1, 3) := by decide +kernel
theorem dX4_pass_70 : decode cX4_pass 70 = .ok (.goto (-60), 3) := by decide +kernel
theorem dX4_pass_73 : decode cX4_pass 73 = .ok (.aload_n 0, 1) := by decide +kernel
theorem dX4_pass_74 : decode cX4_pass 74 = .ok (.dup, 1) := by decide +kernel
theorem dX4_pass_75 : decode cX4_pass 75 = .ok (.getfield 15, 3) := by decide +kernel
theorem dX4_pass_78 : decode cX4_pass 78 = .ok (.aload_n 1, 1) := by decide +kernel
theorem dX4_pass_79 : decode cX4_pass 79 = .ok (.invokevirtual 53, 3) := by decide +kernel
theorem dX4_pass_82 : decode cX4_pass 82 = .ok (.lor, 1) := by decide +kernel
theorem dX4_pass_83 : decode cX4_pass 83 = .ok (.putfield 15, 3) := by decide +kernel
theorem dX4_pass_86 : decode cX4_pass 86 = .ok (.aload_n 0, 1) := by decide +kernel
theorem dX4_pass_87 : decode cX4_pass 87 = .ok (.aload_n 0, 1) := by decide +kernel
theorem dX4_pass_88 : decode cX4_pass 88 = .ok (.getfield 27, 3) := by decide +kernel
theorem dX4_pass_91 : decode cX4_pass 91 = .ok (.iconst 1, 1) := by decide +kernel
theorem dX4_pass_92 : decode cX4_pass 92 = .ok (.isub, 1) := by decide +kernel
theorem dX4_pass_93 : decode cX4_pass 93 = .ok (.iconst 0, 1) := by decide +kernel
theorem dX4_pass_94 : decode cX4_pass 94 = .ok (.invokestatic 59, 3) := by decide +kernel
theorem dX4_pass_97 : decode cX4_pass 97 = .ok (.putfield 27, 3) := by decide +kernel
theorem dX4_pass_100 : decode cX4_pass 100 = .ok (.iload_n 3, 1) := by decide +kernel
theorem dX4_pass_101 : decode cX4_pass 101 = .ok (.ireturn, 1) := by decide +kernel
theorem dX4_oneCell_0 : decode cX4_oneCell 0 = .ok (.iload_n 0, 1) := by decide +kernel
theorem dX4_oneCell_1 : decode cX4_oneCell 1 = .ok (.bipush 6, 2) := by decide +kernel
theorem dX4_oneCell_3 : decode cX4_oneCell 3 = .ok (.idiv, 1) := by decide +kernel
theorem dX4_oneCell_4 : decode cX4_oneCell 4 = .ok (.iload_n 1, 1) := by decide +kernel
theorem dX4_oneCell_5 : decode cX4_oneCell 5 = .ok (.bipush 6, 2) := by decide +kernel
theorem dX4_oneCell_7 : decode cX4_oneCell 7 = .ok (.idiv, 1) := by decide +kernel
theorem dX4_oneCell_8 : decode cX4_oneCell 8 = .ok (.if_icmp .eq 8, 3) := by decide +kernel
theorem dX4_oneCell_11 : decode cX4_oneCell 11 = .ok (.bipush 6, 2) := by decide +kernel
theorem dX4_oneCell_13 : decode cX4_oneCell 13 = .ok (.goto 4, 3) := by decide +kernel
theorem dX4_oneCell_16 : decode cX4_oneCell 16 = .ok (.iconst 1, 1) := by decide +kernel
theorem dX4_oneCell_17 : decode cX4_oneCell 17 = .ok (.istore_n 2, 1) := by decide +kernel
theorem dX4_oneCell_18 : decode cX4_oneCell 18 = .ok (.iload_n 1, 1) := by decide +kernel
theorem dX4_oneCell_19 : decode cX4_oneCell 19 = .ok (.iload_n 0, 1) := by decide +kernel
theorem dX4_oneCell_20 : decode cX4_oneCell 20 = .ok (.if_icmp .le 9, 3) := by decide +kernel
theorem dX4_oneCell_23 : decode cX4_oneCell 23 = .ok (.iload_n 0, 1) := by decide +kernel
theorem dX4_oneCell_24 : decode cX4_oneCell 24 = .ok (.iload_n 2, 1) := by decide +kernel
theorem dX4_oneCell_25 : decode cX4_oneCell 25 = .ok (.iadd, 1) := by decide +kernel
theorem dX4_oneCell_26 : decode cX4_oneCell 26 = .ok (.goto 6, 3) := by decide +kernel
theorem dX4_oneCell_29 : decode cX4_oneCell 29 = .ok (.iload_n 0, 1) := by decide +kernel
theorem dX4_oneCell_30 : decode cX4_oneCell 30 = .ok (.iload_n 2, 1) := by decide +kernel
theorem dX4_oneCell_31 : decode cX4_oneCell 31 = .ok (.isub, 1) := by decide +kernel
theorem dX4_oneCell_32 : decode cX4_oneCell 32 = .ok (.ireturn, 1) := by decide +kernel
theorem dX5_init_0 : decode cX5_init 0 = .ok (.aload_n 0, 1) := by decide +kernel
theorem dX5_init_1 : decode cX5_init 1 = .ok (.invokespecial 3, 3) := by decide +kernel
theorem dX5_init_4 : decode cX5_init 4 = .ok (.aload_n 0, 1) := by decide +kernel
theorem dX5_init_5 : decode cX5_init 5 = .ok (.bipush 6, 2) := by decide +kernel
theorem dX5_init_7 : decode cX5_init 7 = .ok (.newarray .int, 2) := by decide +kernel
theorem dX5_init_9 : decode cX5_init 9 = .ok (.putfield 9, 3) := by decide +kernel
theorem dX5_init_12 : decode cX5_init 12 = .ok (.aload_n 0, 1) := by decide +kernel
theorem dX5_init_13 : decode cX5_init 13 = .ok (.bipush 6, 2) := by decide +kernel
theorem dX5_init_15 : decode cX5_init 15 = .ok (.newarray .int, 2) := by decide +kernel
theorem dX5_init_17 : decode cX5_init 17 = .ok (.putfield 15, 3) := by decide +kernel
theorem dX5_init_20 : decode cX5_init 20 = .ok (.return_, 1) := by decide +kernel
set_option maxRecDepth 20000 in
theorem ggX5_gather_X1_sits : GoodIn wsX5_gather wsX1_sits := goodIn_r _ [8, 9, 25, 26, 27, 28, 29] (by decide +kernel) (by decide +kernel)
set_option maxRecDepth 20000 in
theorem gX5_gather_X1_sits : GoodIn wsX5_gather (wsV RX5 25 RX1 yX1_sits wsX1_sits) := goodIn_app (goodIn_of _ (by decide +kernel)) ggX5_gather_X1_sits
set_option maxRecDepth 20000 in
theorem ggX5_gather_X1_weight : GoodIn wsX5_gather wsX1_weight := goodIn_r _ [13, 14, 9, 25, 26, 27, 28, 29] (by decide +kernel) (by decide +kernel)
set_option maxRecDepth 20000 in
theorem gX5_gather_X1_weight : GoodIn wsX5_gather (wsV RX5 30 RX1 yX1_weight wsX1_weight) := goodIn_app (goodIn_of _ (by decide +kernel)) ggX5_gather_X1_weight
set_option maxRecDepth 20000 in
theorem ggX5_gather_X5_add : GoodIn wsX5_gather wsX5_add := goodIn_r _ [19, 1, 20, 21, 22, 23, 24] (by decide +kernel) (by decide +kernel)
set_option maxRecDepth 20000 in
theorem gX5_gather_X5_add : GoodIn wsX5_gather (wsV RX5 33 RX5 yX5_add wsX5_add) := goodIn_app (goodIn_of _ (by decide +kernel)) ggX5_gather_X5_add
theorem dX5_gather_0 : decode cX5_gather 0 = .ok (.aload_n 0, 1) := by decide +kernel
theorem dX5_gather_1 : decode cX5_gather 1 = .ok (.iconst 0, 1) := by decide +kernel
theorem dX5_gather_2 : decode cX5_gather 2 = .ok (.putfield 18, 3) := by decide +kernel
theorem dX5_gather_5 : decode cX5_gather 5 = .ok (.iconst 0, 1) := by decide +kernel
theorem dX5_gather_6 : decode cX5_gather 6 = .ok (.istore_n 2, 1) := by decide +kernel
theorem dX5_gather_7 : decode cX5_gather 7 = .ok (.iload_n 2, 1) := by decide +kernel
theorem dX5_gather_8 : decode cX5_gather 8 = .ok (.aload_n 1, 1) := by decide +kernel
theorem dX5_gather_9 : decode cX5_gather 9 = .ok (.getfield 22, 3) := by decide +kernel
theorem dX5_gather_12 : decode cX5_gather 12 = .ok (.if_icmp .ge 32, 3) := by decide +kernel
theorem dX5_gather_15 : decode cX5_gather 15 = .ok (.aload_n 1, 1) := by decide +kernel
theorem dX5_gather_16 : decode cX5_gather 16 = .ok (.iload_n 2, 1) := by decide +kernel
theorem dX5_gather_17 : decode cX5_gather 17 = .ok (.invokevirtual 25, 3) := by decide +kernel
theorem dX5_gather_20 : decode cX5_gather 20 = .ok (.ifCond .eq 18, 3) := by decide +kernel
theorem dX5_gather_23 : decode cX5_gather 23 = .ok (.aload_n 0, 1) := by decide +kernel
theorem dX5_gather_24 : decode cX5_gather 24 = .ok (.aload_n 1, 1) := by decide +kernel
theorem dX5_gather_25 : decode cX5_gather 25 = .ok (.getfield 29, 3) := by decide +kernel
theorem dX5_gather_28 : decode cX5_gather 28 = .ok (.iload_n 2, 1) := by decide +kernel
theorem dX5_gather_29 : decode cX5_gather 29 = .ok (.iaload, 1) := by decide +kernel
theorem dX5_gather_30 : decode cX5_gather 30 = .ok (.aload_n 1, 1) := by decide +kernel
theorem dX5_gather_31 : decode cX5_gather 31 = .ok (.iload_n 2, 1) := by decide +kernel
theorem dX5_gather_32 : decode cX5_gather 32 = .ok (.invokevirtual 30, 3) := by decide +kernel
theorem dX5_gather_35 : decode cX5_gather 35 = .ok (.invokevirtual 33, 3) := by decide +kernel
theorem dX5_gather_38 : decode cX5_gather 38 = .ok (.iinc 2 1, 3) := by decide +kernel
theorem dX5_gather_41 : decode cX5_gather 41 = .ok (.goto (-34), 3) := by decide +kernel
theorem dX5_gather_44 : decode cX5_gather 44 = .ok (.return_, 1) := by decide +kernel
theorem dX5_add_0 : decode cX5_add 0 = .ok (.iconst 0, 1) := by decide +kernel
theorem dX5_add_1 : decode cX5_add 1 = .ok (.istore_n 3, 1) := by decide +kernel
theorem dX5_add_2 : decode cX5_add 2 = .ok (.iload_n 3, 1) := by decide +kernel
theorem dX5_add_3 : decode cX5_add 3 = .ok (.aload_n 0, 1) := by decide +kernel
theorem dX5_add_4 : decode cX5_add 4 = .ok (.getfield 18, 3) := by decide +kernel
theorem dX5_add_7 : decode cX5_add 7 = .ok (.if_icmp .ge 30, 3) := by decide +kernel
theorem dX5_add_10 : decode cX5_add 10 = .ok (.aload_n 0, 1) := by decide +kernel
theorem dX5_add_11 : decode cX5_add 11 = .ok (.getfield 9, 3) := by decide +kernel
theorem dX5_add_14 : decode cX5_add 14 = .ok (.iload_n 3, 1) := by decide +kernel
theorem dX5_add_15 : decode cX5_add 15 = .ok (.iaload, 1) := by decide +kernel
theorem dX5_add_16 : decode cX5_add 16 = .ok (.iload_n 1, 1) := by decide +kernel
theorem dX5_add_17 : decode cX5_add 17 = .ok (.if_icmp .ne 14, 3) := by decide +kernel
theorem dX5_add_20 : decode cX5_add 20 = .ok (.aload_n 0, 1) := by decide +kernel
theorem dX5_add_21 : decode cX5_add 21 = .ok (.getfield 15, 3) := by decide +kernel
theorem dX5_add_24 : decode cX5_add 24 = .ok (.iload_n 3, 1) := by decide +kernel
theorem dX5_add_25 : decode cX5_add 25 = .ok (.dup2, 1) := by decide +kernel
theorem dX5_add_26 : decode cX5_add 26 = .ok (.iaload, 1) := by decide +kernel
theorem dX5_add_27 : decode cX5_add 27 = .ok (.iload_n 2, 1) := by decide +kernel
theorem dX5_add_28 : decode cX5_add 28 = .ok (.iadd, 1) := by decide +kernel
theorem dX5_add_29 : decode cX5_add 29 = .ok (.iastore, 1) := by decide +kernel
theorem dX5_add_30 : decode cX5_add 30 = .ok (.return_, 1) := by decide +kernel
theorem dX5_add_31 : decode cX5_add 31 = .ok (.iinc 3 1, 3) := by decide +kernel
theorem dX5_add_34 : decode cX5_add 34 = .ok (.goto (-32), 3) := by decide +kernel
theorem dX5_add_37 : decode cX5_add 37 = .ok (.aload_n 0, 1) := by decide +kernel
theorem dX5_add_38 : decode cX5_add 38 = .ok (.getfield 9, 3) := by decide +kernel
theorem dX5_add_41 : decode cX5_add 41 = .ok (.aload_n 0, 1) := by decide +kernel
theorem dX5_add_42 : decode cX5_add 42 = .ok (.getfield 18, 3) := by decide +kernel
theorem dX5_add_45 : decode cX5_add 45 = .ok (.iload_n 1, 1) := by decide +kernel
theorem dX5_add_46 : decode cX5_add 46 = .ok (.iastore, 1) := by decide +kernel
theorem dX5_add_47 : decode cX5_add 47 = .ok (.aload_n 0, 1) := by decide +kernel
theorem dX5_add_48 : decode cX5_add 48 = .ok (.getfield 15, 3) := by decide +kernel
theorem dX5_add_51 : decode cX5_add 51 = .ok (.aload_n 0, 1) := by decide +kernel
theorem dX5_add_52 : decode cX5_add 52 = .ok (.getfield 18, 3) := by decide +kernel
theorem dX5_add_55 : decode cX5_add 55 = .ok (.iload_n 2, 1) := by decide +kernel
theorem dX5_add_56 : decode cX5_add 56 = .ok (.iastore, 1) := by decide +kernel
theorem dX5_add_57 : decode cX5_add 57 = .ok (.aload_n 0, 1) := by decide +kernel
theorem dX5_add_58 : decode cX5_add 58 = .ok (.dup, 1) := by decide +kernel
theorem dX5_add_59 : decode cX5_add 59 = .ok (.getfield 18, 3) := by decide +kernel
theorem dX5_add_62 : decode cX5_add 62 = .ok (.iconst 1, 1) := by decide +kernel
theorem dX5_add_63 : decode cX5_add 63 = .ok (.iadd, 1) := by decide +kernel
theorem dX5_add_64 : decode cX5_add 64 = .ok (.putfield 18, 3) := by decide +kernel
theorem dX5_add_67 : decode cX5_add 67 = .ok (.return_, 1) := by decide +kernel
set_option maxRecDepth 20000 in
theorem ggX5_goal_X9_apart : GoodIn wsX5_goal wsX9_apart := goodIn_r _ [6] (by decide +kernel) (by decide +kernel)
set_option maxRecDepth 20000 in
theorem gX5_goal_X9_apart_n37 : GoodIn wsX5_goal (wsX9_apart) := ggX5_goal_X9_apart
theorem dX5_goal_0 : decode cX5_goal 0 = .ok (.iconst 0, 1) := by decide +kernel
theorem dX5_goal_1 : decode cX5_goal 1 = .ok (.istore_n 2, 1) := by decide +kernel
theorem dX5_goal_2 : decode cX5_goal 2 = .ok (.iload_n 1, 1) := by decide +kernel
theorem dX5_goal_3 : decode cX5_goal 3 = .ok (.istore_n 3, 1) := by decide +kernel
theorem dX5_goal_4 : decode cX5_goal 4 = .ok (.iconst 0, 1) := by decide +kernel
theorem dX5_goal_5 : decode cX5_goal 5 = .ok (.istore 4, 2) := by decide +kernel
theorem dX5_goal_7 : decode cX5_goal 7 = .ok (.iload 4, 2) := by decide +kernel
theorem dX5_goal_9 : decode cX5_goal 9 = .ok (.aload_n 0, 1) := by decide +kernel
theorem dX5_goal_10 : decode cX5_goal 10 = .ok (.getfield 18, 3) := by decide +kernel
theorem dX5_goal_13 : decode cX5_goal 13 = .ok (.if_icmp .ge 60, 3) := by decide +kernel
theorem dX5_goal_16 : decode cX5_goal 16 = .ok (.aload_n 0, 1) := by decide +kernel
theorem dX5_goal_17 : decode cX5_goal 17 = .ok (.getfield 15, 3) := by decide +kernel
theorem dX5_goal_20 : decode cX5_goal 20 = .ok (.iload 4, 2) := by decide +kernel
theorem dX5_goal_22 : decode cX5_goal 22 = .ok (.iaload, 1) := by decide +kernel
theorem dX5_goal_23 : decode cX5_goal 23 = .ok (.iconst 3, 1) := by decide +kernel
theorem dX5_goal_24 : decode cX5_goal 24 = .ok (.aload_n 0, 1) := by decide +kernel
theorem dX5_goal_25 : decode cX5_goal 25 = .ok (.getfield 9, 3) := by decide +kernel
theorem dX5_goal_28 : decode cX5_goal 28 = .ok (.iload 4, 2) := by decide +kernel
theorem dX5_goal_30 : decode cX5_goal 30 = .ok (.iaload, 1) := by decide +kernel
theorem dX5_goal_31 : decode cX5_goal 31 = .ok (.iload_n 1, 1) := by decide +kernel
theorem dX5_goal_32 : decode cX5_goal 32 = .ok (.invokestatic 37, 3) := by decide +kernel
theorem dX5_goal_35 : decode cX5_goal 35 = .ok (.imul, 1) := by decide +kernel
theorem dX5_goal_36 : decode cX5_goal 36 = .ok (.isub, 1) := by decide +kernel
theorem dX5_goal_37 : decode cX5_goal 37 = .ok (.istore 5, 2) := by decide +kernel
theorem dX5_goal_39 : decode cX5_goal 39 = .ok (.iload 5, 2) := by decide +kernel
theorem dX5_goal_41 : decode cX5_goal 41 = .ok (.iload_n 2, 1) := by decide +kernel
theorem dX5_goal_42 : decode cX5_goal 42 = .ok (.if_icmp .le 17, 3) := by decide +kernel
theorem dX5_goal_45 : decode cX5_goal 45 = .ok (.iload 5, 2) := by decide +kernel
theorem dX5_goal_47 : decode cX5_goal 47 = .ok (.istore_n 2, 1) := by decide +kernel
theorem dX5_goal_48 : decode cX5_goal 48 = .ok (.aload_n 0, 1) := by decide +kernel
theorem dX5_goal_49 : decode cX5_goal 49 = .ok (.getfield 9, 3) := by decide +kernel
theorem dX5_goal_52 : decode cX5_goal 52 = .ok (.iload 4, 2) := by decide +kernel
theorem dX5_goal_54 : decode cX5_goal 54 = .ok (.iaload, 1) := by decide +kernel
theorem dX5_goal_55 : decode cX5_goal 55 = .ok (.istore_n 3, 1) := by decide +kernel
theorem dX5_goal_56 : decode cX5_goal 56 = .ok (.goto 11, 3) := by decide +kernel
theorem dX5_goal_59 : decode cX5_goal 59 = .ok (.iload 5, 2) := by decide +kernel
theorem dX5_goal_61 : decode cX5_goal 61 = .ok (.iload_n 2, 1) := by decide +kernel
theorem dX5_goal_62 : decode cX5_goal 62 = .ok (.if_icmp .ne 5, 3) := by decide +kernel
theorem dX5_goal_65 : decode cX5_goal 65 = .ok (.iload_n 1, 1) := by decide +kernel
theorem dX5_goal_66 : decode cX5_goal 66 = .ok (.istore_n 3, 1) := by decide +kernel
theorem dX5_goal_67 : decode cX5_goal 67 = .ok (.iinc 4 1, 3) := by decide +kernel
theorem dX5_goal_70 : decode cX5_goal 70 = .ok (.goto (-63), 3) := by decide +kernel
theorem dX5_goal_73 : decode cX5_goal 73 = .ok (.iload_n 3, 1) := by decide +kernel
theorem dX5_goal_74 : decode cX5_goal 74 = .ok (.ireturn, 1) := by decide +kernel
theorem dX6_init_0 : decode cX6_init 0 = .ok (.aload_n 0, 1) := by decide +kernel
theorem dX6_init_1 : decode cX6_init 1 = .ok (.invokespecial 3, 3) := by decide +kernel
theorem dX6_init_4 : decode cX6_init 4 = .ok (.aload_n 0, 1) := by decide +kernel
theorem dX6_init_5 : decode cX6_init 5 = .ok (.bipush 16, 2) := by decide +kernel
theorem dX6_init_7 : decode cX6_init 7 = .ok (.newarray .long, 2) := by decide +kernel
theorem dX6_init_9 : decode cX6_init 9 = .ok (.putfield 9, 3) := by decide +kernel
theorem dX6_init_12 : decode cX6_init 12 = .ok (.return_, 1) := by decide +kernel
theorem dX6_start_0 : decode cX6_start 0 = .ok (.aload_n 0, 1) := by decide +kernel
theorem dX6_start_1 : decode cX6_start 1 = .ok (.iconst 1, 1) := by decide +kernel
theorem dX6_start_2 : decode cX6_start 2 = .ok (.putfield 15, 3) := by decide +kernel
theorem dX6_start_5 : decode cX6_start 5 = .ok (.aload_n 0, 1) := by decide +kernel
theorem dX6_start_6 : decode cX6_start 6 = .ok (.iload_n 1, 1) := by decide +kernel
theorem dX6_start_7 : decode cX6_start 7 = .ok (.putfield 19, 3) := by decide +kernel
theorem dX6_start_10 : decode cX6_start 10 = .ok (.aload_n 0, 1) := by decide +kernel
theorem dX6_start_11 : decode cX6_start 11 = .ok (.iload_n 2, 1) := by decide +kernel
theorem dX6_start_12 : decode cX6_start 12 = .ok (.putfield 23, 3) := by decide +kernel
theorem dX6_start_15 : decode cX6_start 15 = .ok (.iconst 0, 1) := by decide +kernel
theorem dX6_start_16 : decode cX6_start 16 = .ok (.istore_n 3, 1) := by decide +kernel
theorem dX6_start_17 : decode cX6_start 17 = .ok (.iload_n 3, 1) := by decide +kernel
theorem dX6_start_18 : decode cX6_start 18 = .ok (.iload_n 2, 1) := by decide +kernel
theorem dX6_start_19 : decode cX6_start 19 = .ok (.if_icmp .ge 16, 3) := by decide +kernel
theorem dX6_start_22 : decode cX6_start 22 = .ok (.aload_n 0, 1) := by decide +kernel
theorem dX6_start_23 : decode cX6_start 23 = .ok (.getfield 9, 3) := by decide +kernel
theorem dX6_start_26 : decode cX6_start 26 = .ok (.iload_n 3, 1) := by decide +kernel
theorem dX6_start_27 : decode cX6_start 27 = .ok (.lconst 0, 1) := by decide +kernel
theorem dX6_start_28 : decode cX6_start 28 = .ok (.lastore, 1) := by decide +kernel
theorem dX6_start_29 : decode cX6_start 29 = .ok (.iinc 3 1, 3) := by decide +kernel
theorem dX6_start_32 : decode cX6_start 32 = .ok (.goto (-15), 3) := by decide +kernel
theorem dX6_start_35 : decode cX6_start 35 = .ok (.return_, 1) := by decide +kernel
theorem dX6_spans_0 : decode cX6_spans 0 = .ok (.iload_n 1, 1) := by decide +kernel
theorem dX6_spans_1 : decode cX6_spans 1 = .ok (.ifCond .lt 29, 3) := by decide +kernel
theorem dX6_spans_4 : decode cX6_spans 4 = .ok (.iload_n 2, 1) := by decide +kernel
theorem dX6_spans_5 : decode cX6_spans 5 = .ok (.ifCond .lt 25, 3) := by decide +kernel
theorem dX6_spans_8 : decode cX6_spans 8 = .ok (.iload_n 1, 1) := by decide +kernel
theorem dX6_spans_9 : decode cX6_spans 9 = .ok (.aload_n 0, 1) := by decide +kernel
theorem dX6_spans_10 : decode cX6_spans 10 = .ok (.getfield 23, 3) := by decide +kernel
theorem dX6_spans_13 : decode cX6_spans 13 = .ok (.if_icmp .gt 17, 3) := by decide +kernel
theorem dX6_spans_16 : decode cX6_spans 16 = .ok (.iload_n 2, 1) := by decide +kernel
theorem dX6_spans_17 : decode cX6_spans 17 = .ok (.aload_n 0, 1) := by decide +kernel
theorem dX6_spans_18 : decode cX6_spans 18 = .ok (.getfield 23, 3) := by decide +kernel
theorem dX6_spans_21 : decode cX6_spans 21 = .ok (.iload_n 1, 1) := by decide +kernel
theorem dX6_spans_22 : decode cX6_spans 22 = .ok (.isub, 1) := by decide +kernel
theorem dX6_spans_23 : decode cX6_spans 23 = .ok (.if_icmp .gt 7, 3) := by decide +kernel
theorem dX6_spans_26 : decode cX6_spans 26 = .ok (.iconst 1, 1) := by decide +kernel
theorem dX6_spans_27 : decode cX6_spans 27 = .ok (.goto 4, 3) := by decide +kernel
theorem dX6_spans_30 : decode cX6_spans 30 = .ok (.iconst 0, 1) := by decide +kernel
theorem dX6_spans_31 : decode cX6_spans 31 = .ok (.ireturn, 1) := by decide +kernel
set_option maxRecDepth 20000 in
theorem ggX6_refusal_X6_spans : GoodIn wsX6_refusal wsX6_spans := goodIn_r _ [7, 8, 9, 10, 11, 12] (by decide +kernel) (by decide +kernel)
set_option maxRecDepth 20000 in
theorem gX6_refusal_X6_spans : GoodIn wsX6_refusal (wsV RX6 26 RX6 yX6_spans wsX6_spans) := goodIn_app (goodIn_of _ (by decide +kernel)) ggX6_refusal_X6_spans
theorem dX6_refusal_0 : decode cX6_refusal 0 = .ok (.aload_n 0, 1) := by decide +kernel
theorem dX6_refusal_1 : decode cX6_refusal 1 = .ok (.getfield 15, 3) := by decide +kernel
theorem dX6_refusal_4 : decode cX6_refusal 4 = .ok (.ifCond .ne 6, 3) := by decide +kernel
theorem dX6_refusal_7 : decode cX6_refusal 7 = .ok (.bipush (-11), 2) := by decide +kernel
theorem dX6_refusal_9 : decode cX6_refusal 9 = .ok (.ireturn, 1) := by decide +kernel
theorem dX6_refusal_10 : decode cX6_refusal 10 = .ok (.aload_n 0, 1) := by decide +kernel
theorem dX6_refusal_11 : decode cX6_refusal 11 = .ok (.getfield 19, 3) := by decide +kernel
theorem dX6_refusal_14 : decode cX6_refusal 14 = .ok (.iload_n 1, 1) := by decide +kernel
theorem dX6_refusal_15 : decode cX6_refusal 15 = .ok (.if_icmp .eq 6, 3) := by decide +kernel
theorem dX6_refusal_18 : decode cX6_refusal 18 = .ok (.bipush (-12), 2) := by decide +kernel
theorem dX6_refusal_20 : decode cX6_refusal 20 = .ok (.ireturn, 1) := by decide +kernel
theorem dX6_refusal_21 : decode cX6_refusal 21 = .ok (.aload_n 0, 1) := by decide +kernel
theorem dX6_refusal_22 : decode cX6_refusal 22 = .ok (.iload_n 2, 1) := by decide +kernel
theorem dX6_refusal_23 : decode cX6_refusal 23 = .ok (.iload_n 3, 1) := by decide +kernel
theorem dX6_refusal_24 : decode cX6_refusal 24 = .ok (.invokevirtual 26, 3) := by decide +kernel
theorem dX6_refusal_27 : decode cX6_refusal 27 = .ok (.ifCond .eq 7, 3) := by decide +kernel
theorem dX6_refusal_30 : decode cX6_refusal 30 = .ok (.iconst 0, 1) := by decide +kernel
theorem dX6_refusal_31 : decode cX6_refusal 31 = .ok (.goto 5, 3) := by decide +kernel
theorem dX6_refusal_34 : decode cX6_refusal 34 = .ok (.bipush (-13), 2) := by decide +kernel
theorem dX6_refusal_36 : decode cX6_refusal 36 = .ok (.ireturn, 1) := by decide +kernel
theorem dX6_put_0 : decode cX6_put 0 = .ok (.aload_n 0, 1) := by decide +kernel
theorem dX6_put_1 : decode cX6_put 1 = .ok (.getfield 9, 3) := by decide +kernel
theorem dX6_put_4 : decode cX6_put 4 = .ok (.iload_n 1, 1) := by decide +kernel
theorem dX6_put_5 : decode cX6_put 5 = .ok (.aload_n 0, 1) := by decide +kernel
theorem dX6_put_6 : decode cX6_put 6 = .ok (.getfield 19, 3) := by decide +kernel
theorem dX6_put_9 : decode cX6_put 9 = .ok (.ifCond .ne 10, 3) := by decide +kernel
theorem dX6_put_12 : decode cX6_put 12 = .ok (.lload_n 2, 1) := by decide +kernel
theorem dX6_put_13 : decode cX6_put 13 = .ok (.l2i, 1) := by decide +kernel
theorem dX6_put_14 : decode cX6_put 14 = .ok (.i2b, 1) := by decide +kernel
theorem dX6_put_15 : decode cX6_put 15 = .ok (.i2l, 1) := by decide +kernel
theorem dX6_put_16 : decode cX6_put 16 = .ok (.goto 18, 3) := by decide +kernel
theorem dX6_put_19 : decode cX6_put 19 = .ok (.aload_n 0, 1) := by decide +kernel
theorem dX6_put_20 : decode cX6_put 20 = .ok (.getfield 19, 3) := by decide +kernel
theorem dX6_put_23 : decode cX6_put 23 = .ok (.iconst 1, 1) := by decide +kernel
theorem dX6_put_24 : decode cX6_put 24 = .ok (.if_icmp .ne 9, 3) := by decide +kernel
theorem dX6_put_27 : decode cX6_put 27 = .ok (.lload_n 2, 1) := by decide +kernel
theorem dX6_put_28 : decode cX6_put 28 = .ok (.l2i, 1) := by decide +kernel
theorem dX6_put_29 : decode cX6_put 29 = .ok (.i2l, 1) := by decide +kernel
theorem dX6_put_30 : decode cX6_put 30 = .ok (.goto 4, 3) := by decide +kernel
theorem dX6_put_33 : decode cX6_put 33 = .ok (.lload_n 2, 1) := by decide +kernel
theorem dX6_put_34 : decode cX6_put 34 = .ok (.lastore, 1) := by decide +kernel
theorem dX6_put_35 : decode cX6_put 35 = .ok (.return_, 1) := by decide +kernel
theorem dX6_tells_0 : decode cX6_tells 0 = .ok (.iconst 0, 1) := by decide +kernel
theorem dX6_tells_1 : decode cX6_tells 1 = .ok (.istore_n 3, 1) := by decide +kernel
theorem dX6_tells_2 : decode cX6_tells 2 = .ok (.iload_n 3, 1) := by decide +kernel
theorem dX6_tells_3 : decode cX6_tells 3 = .ok (.aload_n 2, 1) := by decide +kernel
theorem dX6_tells_4 : decode cX6_tells 4 = .ok (.getfield 30, 3) := by decide +kernel
theorem dX6_tells_7 : decode cX6_tells 7 = .ok (.if_icmp .ge 30, 3) := by decide +kernel
theorem dX6_tells_10 : decode cX6_tells 10 = .ok (.aload_n 0, 1) := by decide +kernel
theorem dX6_tells_11 : decode cX6_tells 11 = .ok (.getfield 9, 3) := by decide +kernel
theorem dX6_tells_14 : decode cX6_tells 14 = .ok (.iload_n 1, 1) := by decide +kernel
theorem dX6_tells_15 : decode cX6_tells 15 = .ok (.iload_n 3, 1) := by decide +kernel
theorem dX6_tells_16 : decode cX6_tells 16 = .ok (.iadd, 1) := by decide +kernel
theorem dX6_tells_17 : decode cX6_tells 17 = .ok (.laload, 1) := by decide +kernel
theorem dX6_tells_18 : decode cX6_tells 18 = .ok (.aload_n 2, 1) := by decide +kernel
theorem dX6_tells_19 : decode cX6_tells 19 = .ok (.getfield 35, 3) := by decide +kernel
theorem dX6_tells_22 : decode cX6_tells 22 = .ok (.iload_n 3, 1) := by decide +kernel
theorem dX6_tells_23 : decode cX6_tells 23 = .ok (.iaload, 1) := by decide +kernel
theorem dX6_tells_24 : decode cX6_tells 24 = .ok (.i2l, 1) := by decide +kernel
theorem dX6_tells_25 : decode cX6_tells 25 = .ok (.lcmp, 1) := by decide +kernel
theorem dX6_tells_26 : decode cX6_tells 26 = .ok (.ifCond .eq 5, 3) := by decide +kernel
theorem dX6_tells_29 : decode cX6_tells 29 = .ok (.iconst 0, 1) := by decide +kernel
theorem dX6_tells_30 : decode cX6_tells 30 = .ok (.ireturn, 1) := by decide +kernel
theorem dX6_tells_31 : decode cX6_tells 31 = .ok (.iinc 3 1, 3) := by decide +kernel
theorem dX6_tells_34 : decode cX6_tells 34 = .ok (.goto (-32), 3) := by decide +kernel
theorem dX6_tells_37 : decode cX6_tells 37 = .ok (.iconst 1, 1) := by decide +kernel
theorem dX6_tells_38 : decode cX6_tells 38 = .ok (.ireturn, 1) := by decide +kernel
theorem dX7_init_0 : decode cX7_init 0 = .ok (.aload_n 0, 1) := by decide +kernel
theorem dX7_init_1 : decode cX7_init 1 = .ok (.invokespecial 3, 3) := by decide +kernel
theorem dX7_init_4 : decode cX7_init 4 = .ok (.aload_n 0, 1) := by decide +kernel
theorem dX7_init_5 : decode cX7_init 5 = .ok (.bipush 60, 2) := by decide +kernel
theorem dX7_init_7 : decode cX7_init 7 = .ok (.newarray .byte, 2) := by decide +kernel
theorem dX7_init_9 : decode cX7_init 9 = .ok (.putfield 9, 3) := by decide +kernel
theorem dX7_init_12 : decode cX7_init 12 = .ok (.aload_n 0, 1) := by decide +kernel
theorem dX7_init_13 : decode cX7_init 13 = .ok (.bipush 6, 2) := by decide +kernel
theorem dX7_init_15 : decode cX7_init 15 = .ok (.newarray .int, 2) := by decide +kernel
theorem dX7_init_17 : decode cX7_init 17 = .ok (.putfield 15, 3) := by decide +kernel
theorem dX7_init_20 : decode cX7_init 20 = .ok (.return_, 1) := by decide +kernel
theorem dX7_canTake_0 : decode cX7_canTake 0 = .ok (.iconst 0, 1) := by decide +kernel
theorem dX7_canTake_1 : decode cX7_canTake 1 = .ok (.istore_n 3, 1) := by decide +kernel
theorem dX7_canTake_2 : decode cX7_canTake 2 = .ok (.iload_n 3, 1) := by decide +kernel
theorem dX7_canTake_3 : decode cX7_canTake 3 = .ok (.iload_n 2, 1) := by decide +kernel
theorem dX7_canTake_4 : decode cX7_canTake 4 = .ok (.if_icmp .ge 41, 3) := by decide +kernel
theorem dX7_canTake_7 : decode cX7_canTake 7 = .ok (.lload_n 0, 1) := by decide +kernel
theorem dX7_canTake_8 : decode cX7_canTake 8 = .ok (.bipush 8, 2) := by decide +kernel
theorem dX7_canTake_10 : decode cX7_canTake 10 = .ok (.iload_n 3, 1) := by decide +kernel
theorem dX7_canTake_11 : decode cX7_canTake 11 = .ok (.imul, 1) := by decide +kernel
theorem dX7_canTake_12 : decode cX7_canTake 12 = .ok (.lushr, 1) := by decide +kernel
theorem dX7_canTake_13 : decode cX7_canTake 13 = .ok (.ldc2_w 19, 3) := by decide +kernel
theorem dX7_canTake_16 : decode cX7_canTake 16 = .ok (.land, 1) := by decide +kernel
theorem dX7_canTake_17 : decode cX7_canTake 17 = .ok (.lstore 4, 2) := by decide +kernel
theorem dX7_canTake_19 : decode cX7_canTake 19 = .ok (.lload 4, 2) := by decide +kernel
theorem dX7_canTake_21 : decode cX7_canTake 21 = .ok (.ldc2_w 21, 3) := by decide +kernel
theorem dX7_canTake_24 : decode cX7_canTake 24 = .ok (.lcmp, 1) := by decide +kernel
theorem dX7_canTake_25 : decode cX7_canTake 25 = .ok (.ifCond .lt 12, 3) := by decide +kernel
theorem dX7_canTake_28 : decode cX7_canTake 28 = .ok (.lload 4, 2) := by decide +kernel
theorem dX7_canTake_30 : decode cX7_canTake 30 = .ok (.ldc2_w 23, 3) := by decide +kernel
theorem dX7_canTake_33 : decode cX7_canTake 33 = .ok (.lcmp, 1) := by decide +kernel
theorem dX7_canTake_34 : decode cX7_canTake 34 = .ok (.ifCond .le 5, 3) := by decide +kernel
theorem dX7_canTake_37 : decode cX7_canTake 37 = .ok (.iconst 0, 1) := by decide +kernel
theorem dX7_canTake_38 : decode cX7_canTake 38 = .ok (.ireturn, 1) := by decide +kernel
theorem dX7_canTake_39 : decode cX7_canTake 39 = .ok (.iinc 3 1, 3) := by decide +kernel
theorem dX7_canTake_42 : decode cX7_canTake 42 = .ok (.goto (-40), 3) := by decide +kernel
theorem dX7_canTake_45 : decode cX7_canTake 45 = .ok (.iconst 1, 1) := by decide +kernel
theorem dX7_canTake_46 : decode cX7_canTake 46 = .ok (.ireturn, 1) := by decide +kernel
theorem dX7_append_0 : decode cX7_append 0 = .ok (.iload_n 3, 1) := by decide +kernel
theorem dX7_append_1 : decode cX7_append 1 = .ok (.bipush 60, 2) := by decide +kernel
theorem dX7_append_3 : decode cX7_append 3 = .ok (.aload_n 0, 1) := by decide +kernel
theorem dX7_append_4 : decode cX7_append 4 = .ok (.getfield 25, 3) := by decide +kernel
theorem dX7_append_7 : decode cX7_append 7 = .ok (.isub, 1) := by decide +kernel
theorem dX7_append_8 : decode cX7_append 8 = .ok (.if_icmp .le 6, 3) := by decide +kernel
theorem dX7_append_11 : decode cX7_append 11 = .ok (.bipush (-3), 2) := by decide +kernel
theorem dX7_append_13 : decode cX7_append 13 = .ok (.ireturn, 1) := by decide +kernel
theorem dX7_append_14 : decode cX7_append 14 = .ok (.iload_n 3, 1) := by decide +kernel
theorem dX7_append_15 : decode cX7_append 15 = .ok (.iconst 1, 1) := by decide +kernel
theorem dX7_append_16 : decode cX7_append 16 = .ok (.isub, 1) := by decide +kernel
theorem dX7_append_17 : decode cX7_append 17 = .ok (.istore 4, 2) := by decide +kernel
theorem dX7_append_19 : decode cX7_append 19 = .ok (.iload 4, 2) := by decide +kernel
theorem dX7_append_21 : decode cX7_append 21 = .ok (.ifCond .lt 37, 3) := by decide +kernel
theorem dX7_append_24 : decode cX7_append 24 = .ok (.aload_n 0, 1) := by decide +kernel
theorem dX7_append_25 : decode cX7_append 25 = .ok (.getfield 9, 3) := by decide +kernel
theorem dX7_append_28 : decode cX7_append 28 = .ok (.aload_n 0, 1) := by decide +kernel
theorem dX7_append_29 : decode cX7_append 29 = .ok (.getfield 25, 3) := by decide +kernel
theorem dX7_append_32 : decode cX7_append 32 = .ok (.lload_n 1, 1) := by decide +kernel
theorem dX7_append_33 : decode cX7_append 33 = .ok (.bipush 8, 2) := by decide +kernel
theorem dX7_append_35 : decode cX7_append 35 = .ok (.iload 4, 2) := by decide +kernel
theorem dX7_append_37 : decode cX7_append 37 = .ok (.imul, 1) := by decide +kernel
theorem dX7_append_38 : decode cX7_append 38 = .ok (.lushr, 1) := by decide +kernel
theorem dX7_append_39 : decode cX7_append 39 = .ok (.l2i, 1) := by decide +kernel
theorem dX7_append_40 : decode cX7_append 40 = .ok (.i2b, 1) := by decide +kernel
theorem dX7_append_41 : decode cX7_append 41 = .ok (.bastore, 1) := by decide +kernel
theorem dX7_append_42 : decode cX7_append 42 = .ok (.aload_n 0, 1) := by decide +kernel
theorem dX7_append_43 : decode cX7_append 43 = .ok (.dup, 1) := by decide +kernel
theorem dX7_append_44 : decode cX7_append 44 = .ok (.getfield 25, 3) := by decide +kernel
theorem dX7_append_47 : decode cX7_append 47 = .ok (.iconst 1, 1) := by decide +kernel
theorem dX7_append_48 : decode cX7_append 48 = .ok (.iadd, 1) := by decide +kernel
theorem dX7_append_49 : decode cX7_append 49 = .ok (.putfield 25, 3) := by decide +kernel
theorem dX7_append_52 : decode cX7_append 52 = .ok (.iinc 4 (-1), 3) := by decide +kernel
theorem dX7_append_55 : decode cX7_append 55 = .ok (.goto (-36), 3) := by decide +kernel
theorem dX7_append_58 : decode cX7_append 58 = .ok (.aload_n 0, 1) := by decide +kernel
theorem dX7_append_59 : decode cX7_append 59 = .ok (.getfield 25, 3) := by decide +kernel
theorem dX7_append_62 : decode cX7_append 62 = .ok (.ireturn, 1) := by decide +kernel
theorem dX7_clear_0 : decode cX7_clear 0 = .ok (.aload_n 0, 1) := by decide +kernel
theorem dX7_clear_1 : decode cX7_clear 1 = .ok (.iconst 0, 1) := by decide +kernel
theorem dX7_clear_2 : decode cX7_clear 2 = .ok (.putfield 25, 3) := by decide +kernel
theorem dX7_clear_5 : decode cX7_clear 5 = .ok (.return_, 1) := by decide +kernel
set_option maxRecDepth 20000 in
theorem ggX7_read_X7_takes : GoodIn wsX7_read wsX7_takes := goodIn_r _ [9, 10, 11, 12, 8, 13, 1, 14, 15, 16, 17, 18, 19, 20, 2, 21, 22, 23, 24, 25, 26] (by decide +kernel) (by decide +kernel)
set_option maxRecDepth 20000 in
theorem gX7_read_X7_takes : GoodIn wsX7_read (wsV RX7 36 RX7 yX7_takes wsX7_takes) := goodIn_app (goodIn_of _ (by decide +kernel)) ggX7_read_X7_takes
theorem dX7_read_0 : decode cX7_read 0 = .ok (.aload_n 0, 1) := by decide +kernel
theorem dX7_read_1 : decode cX7_read 1 = .ok (.lconst 0, 1) := by decide +kernel
theorem dX7_read_2 : decode cX7_read 2 = .ok (.putfield 29, 3) := by decide +kernel
theorem dX7_read_5 : decode cX7_read 5 = .ok (.aload_n 0, 1) := by decide +kernel
theorem dX7_read_6 : decode cX7_read 6 = .ok (.iconst 0, 1) := by decide +kernel
theorem dX7_read_7 : decode cX7_read 7 = .ok (.putfield 33, 3) := by decide +kernel
theorem dX7_read_10 : decode cX7_read 10 = .ok (.iconst 0, 1) := by decide +kernel
theorem dX7_read_11 : decode cX7_read 11 = .ok (.istore_n 1, 1) := by decide +kernel
theorem dX7_read_12 : decode cX7_read 12 = .ok (.iconst 0, 1) := by decide +kernel
theorem dX7_read_13 : decode cX7_read 13 = .ok (.istore_n 2, 1) := by decide +kernel
theorem dX7_read_14 : decode cX7_read 14 = .ok (.iload_n 2, 1) := by decide +kernel
theorem dX7_read_15 : decode cX7_read 15 = .ok (.aload_n 0, 1) := by decide +kernel
theorem dX7_read_16 : decode cX7_read 16 = .ok (.getfield 25, 3) := by decide +kernel
theorem dX7_read_19 : decode cX7_read 19 = .ok (.if_icmp .ge 45, 3) := by decide +kernel
theorem dX7_read_22 : decode cX7_read 22 = .ok (.aload_n 0, 1) := by decide +kernel
theorem dX7_read_23 : decode cX7_read 23 = .ok (.getfield 9, 3) := by decide +kernel
theorem dX7_read_26 : decode cX7_read 26 = .ok (.iload_n 2, 1) := by decide +kernel
theorem dX7_read_27 : decode cX7_read 27 = .ok (.baload, 1) := by decide +kernel
theorem dX7_read_28 : decode cX7_read 28 = .ok (.bipush 32, 2) := by decide +kernel
theorem dX7_read_30 : decode cX7_read 30 = .ok (.if_icmp .ne 6, 3) := by decide +kernel
theorem dX7_read_33 : decode cX7_read 33 = .ok (.goto 25, 3) := by decide +kernel
theorem dX7_read_36 : decode cX7_read 36 = .ok (.aload_n 0, 1) := by decide +kernel
theorem dX7_read_37 : decode cX7_read 37 = .ok (.iload_n 1, 1) := by decide +kernel
theorem dX7_read_38 : decode cX7_read 38 = .ok (.aload_n 0, 1) := by decide +kernel
theorem dX7_read_39 : decode cX7_read 39 = .ok (.getfield 9, 3) := by decide +kernel
theorem dX7_read_42 : decode cX7_read 42 = .ok (.iload_n 2, 1) := by decide +kernel
theorem dX7_read_43 : decode cX7_read 43 = .ok (.baload, 1) := by decide +kernel
theorem dX7_read_44 : decode cX7_read 44 = .ok (.invokevirtual 36, 3) := by decide +kernel
theorem dX7_read_47 : decode cX7_read 47 = .ok (.ifCond .ne 8, 3) := by decide +kernel
theorem dX7_read_50 : decode cX7_read 50 = .ok (.bipush (-20), 2) := by decide +kernel
theorem dX7_read_52 : decode cX7_read 52 = .ok (.iload_n 2, 1) := by decide +kernel
theorem dX7_read_53 : decode cX7_read 53 = .ok (.isub, 1) := by decide +kernel
theorem dX7_read_54 : decode cX7_read 54 = .ok (.ireturn, 1) := by decide +kernel
theorem dX7_read_55 : decode cX7_read 55 = .ok (.iinc 1 1, 3) := by decide +kernel
theorem dX7_read_58 : decode cX7_read 58 = .ok (.iinc 2 1, 3) := by decide +kernel
theorem dX7_read_61 : decode cX7_read 61 = .ok (.goto (-47), 3) := by decide +kernel
theorem dX7_read_64 : decode cX7_read 64 = .ok (.iload_n 1, 1) := by decide +kernel
theorem dX7_read_65 : decode cX7_read 65 = .ok (.bipush 41, 2) := by decide +kernel
theorem dX7_read_67 : decode cX7_read 67 = .ok (.if_icmp .ge 13, 3) := by decide +kernel
theorem dX7_read_70 : decode cX7_read 70 = .ok (.bipush (-20), 2) := by decide +kernel
theorem dX7_read_72 : decode cX7_read 72 = .ok (.aload_n 0, 1) := by decide +kernel
theorem dX7_read_73 : decode cX7_read 73 = .ok (.getfield 25, 3) := by decide +kernel
theorem dX7_read_76 : decode cX7_read 76 = .ok (.isub, 1) := by decide +kernel
theorem dX7_read_77 : decode cX7_read 77 = .ok (.goto 7, 3) := by decide +kernel
theorem dX7_read_80 : decode cX7_read 80 = .ok (.aload_n 0, 1) := by decide +kernel
theorem dX7_read_81 : decode cX7_read 81 = .ok (.getfield 33, 3) := by decide +kernel
theorem dX7_read_84 : decode cX7_read 84 = .ok (.ireturn, 1) := by decide +kernel
set_option maxRecDepth 20000 in
theorem ggX7_takes_X7_takesCell : GoodIn wsX7_takes wsX7_takesCell := goodIn_r _ [5, 6, 7, 8, 9, 10, 11, 12, 4, 13, 14, 15, 16, 17, 18, 19, 20] (by decide +kernel) (by decide +kernel)
set_option maxRecDepth 20000 in
theorem gX7_takes_X7_takesCell : GoodIn wsX7_takes (wsV RX7 40 RX7 yX7_takesCell wsX7_takesCell) := goodIn_app (goodIn_of _ (by decide +kernel)) ggX7_takes_X7_takesCell
theorem dX7_takes_0 : decode cX7_takes 0 = .ok (.iload_n 1, 1) := by decide +kernel
theorem dX7_takes_1 : decode cX7_takes 1 = .ok (.bipush 7, 2) := by decide +kernel
theorem dX7_takes_3 : decode cX7_takes 3 = .ok (.idiv, 1) := by decide +kernel
theorem dX7_takes_4 : decode cX7_takes 4 = .ok (.istore_n 3, 1) := by decide +kernel
theorem dX7_takes_5 : decode cX7_takes 5 = .ok (.iload_n 1, 1) := by decide +kernel
theorem dX7_takes_6 : decode cX7_takes 6 = .ok (.bipush 7, 2) := by decide +kernel
theorem dX7_takes_8 : decode cX7_takes 8 = .ok (.irem, 1) := by decide +kernel
theorem dX7_takes_9 : decode cX7_takes 9 = .ok (.istore 4, 2) := by decide +kernel
theorem dX7_takes_11 : decode cX7_takes 11 = .ok (.iload_n 3, 1) := by decide +kernel
theorem dX7_takes_12 : decode cX7_takes 12 = .ok (.bipush 6, 2) := by decide +kernel
theorem dX7_takes_14 : decode cX7_takes 14 = .ok (.if_icmp .ge 15, 3) := by decide +kernel
theorem dX7_takes_17 : decode cX7_takes 17 = .ok (.iload_n 3, 1) := by decide +kernel
theorem dX7_takes_18 : decode cX7_takes 18 = .ok (.iconst 5, 1) := by decide +kernel
theorem dX7_takes_19 : decode cX7_takes 19 = .ok (.if_icmp .ne 12, 3) := by decide +kernel
theorem dX7_takes_22 : decode cX7_takes 22 = .ok (.iload 4, 2) := by decide +kernel
theorem dX7_takes_24 : decode cX7_takes 24 = .ok (.bipush 6, 2) := by decide +kernel
theorem dX7_takes_26 : decode cX7_takes 26 = .ok (.if_icmp .ne 5, 3) := by decide +kernel
theorem dX7_takes_29 : decode cX7_takes 29 = .ok (.iconst 0, 1) := by decide +kernel
theorem dX7_takes_30 : decode cX7_takes 30 = .ok (.ireturn, 1) := by decide +kernel
theorem dX7_takes_31 : decode cX7_takes 31 = .ok (.iload 4, 2) := by decide +kernel
theorem dX7_takes_33 : decode cX7_takes 33 = .ok (.bipush 6, 2) := by decide +kernel
theorem dX7_takes_35 : decode cX7_takes 35 = .ok (.if_icmp .ne 17, 3) := by decide +kernel
theorem dX7_takes_38 : decode cX7_takes 38 = .ok (.iload_n 2, 1) := by decide +kernel
theorem dX7_takes_39 : decode cX7_takes 39 = .ok (.bipush 47, 2) := by decide +kernel
theorem dX7_takes_41 : decode cX7_takes 41 = .ok (.if_icmp .ne 7, 3) := by decide +kernel
theorem dX7_takes_44 : decode cX7_takes 44 = .ok (.iconst 1, 1) := by decide +kernel
theorem dX7_takes_45 : decode cX7_takes 45 = .ok (.goto 19, 3) := by decide +kernel
theorem dX7_takes_48 : decode cX7_takes 48 = .ok (.iconst 0, 1) := by decide +kernel
theorem dX7_takes_49 : decode cX7_takes 49 = .ok (.goto 15, 3) := by decide +kernel
theorem dX7_takes_52 : decode cX7_takes 52 = .ok (.aload_n 0, 1) := by decide +kernel
theorem dX7_takes_53 : decode cX7_takes 53 = .ok (.iload_n 3, 1) := by decide +kernel
theorem dX7_takes_54 : decode cX7_takes 54 = .ok (.bipush 6, 2) := by decide +kernel
theorem dX7_takes_56 : decode cX7_takes 56 = .ok (.imul, 1) := by decide +kernel
theorem dX7_takes_57 : decode cX7_takes 57 = .ok (.iload 4, 2) := by decide +kernel
theorem dX7_takes_59 : decode cX7_takes 59 = .ok (.iadd, 1) := by decide +kernel
theorem dX7_takes_60 : decode cX7_takes 60 = .ok (.iload_n 2, 1) := by decide +kernel
theorem dX7_takes_61 : decode cX7_takes 61 = .ok (.invokevirtual 40, 3) := by decide +kernel
theorem dX7_takes_64 : decode cX7_takes 64 = .ok (.ireturn, 1) := by decide +kernel
set_option maxRecDepth 20000 in
theorem ggX7_takesCell_X9_bit : GoodIn wsX7_takesCell wsX9_bit := goodIn_r _ [4] (by decide +kernel) (by decide +kernel)
set_option maxRecDepth 20000 in
theorem gX7_takesCell_X9_bit_n43 : GoodIn wsX7_takesCell (wsX9_bit) := ggX7_takesCell_X9_bit
set_option maxRecDepth 20000 in
theorem ggX7_takesCell_X7_takesTuft : GoodIn wsX7_takesCell wsX7_takesTuft := goodIn_r _ [9, 10, 11, 12, 13, 14, 15, 16] (by decide +kernel) (by decide +kernel)
set_option maxRecDepth 20000 in
theorem gX7_takesCell_X7_takesTuft : GoodIn wsX7_takesCell (wsV RX7 47 RX7 yX7_takesTuft wsX7_takesTuft) := goodIn_app (goodIn_of _ (by decide +kernel)) ggX7_takesCell_X7_takesTuft
theorem dX7_takesCell_0 : decode cX7_takesCell 0 = .ok (.iload_n 2, 1) := by decide +kernel
theorem dX7_takesCell_1 : decode cX7_takesCell 1 = .ok (.lookupswitch 58 #[(35, 37), (46, 35), (109, 52)], 35) := by decide +kernel
theorem dX7_takesCell_36 : decode cX7_takesCell 36 = .ok (.iconst 1, 1) := by decide +kernel
theorem dX7_takesCell_37 : decode cX7_takesCell 37 = .ok (.ireturn, 1) := by decide +kernel
theorem dX7_takesCell_38 : decode cX7_takesCell 38 = .ok (.aload_n 0, 1) := by decide +kernel
theorem dX7_takesCell_39 : decode cX7_takesCell 39 = .ok (.dup, 1) := by decide +kernel
theorem dX7_takesCell_40 : decode cX7_takesCell 40 = .ok (.getfield 29, 3) := by decide +kernel
theorem dX7_takesCell_43 : decode cX7_takesCell 43 = .ok (.iload_n 1, 1) := by decide +kernel
theorem dX7_takesCell_44 : decode cX7_takesCell 44 = .ok (.invokestatic 43, 3) := by decide +kernel
theorem dX7_takesCell_47 : decode cX7_takesCell 47 = .ok (.lor, 1) := by decide +kernel
theorem dX7_takesCell_48 : decode cX7_takesCell 48 = .ok (.putfield 29, 3) := by decide +kernel
theorem dX7_takesCell_51 : decode cX7_takesCell 51 = .ok (.iconst 1, 1) := by decide +kernel
theorem dX7_takesCell_52 : decode cX7_takesCell 52 = .ok (.ireturn, 1) := by decide +kernel
theorem dX7_takesCell_53 : decode cX7_takesCell 53 = .ok (.aload_n 0, 1) := by decide +kernel
theorem dX7_takesCell_54 : decode cX7_takesCell 54 = .ok (.iload_n 1, 1) := by decide +kernel
theorem dX7_takesCell_55 : decode cX7_takesCell 55 = .ok (.invokevirtual 47, 3) := by decide +kernel
theorem dX7_takesCell_58 : decode cX7_takesCell 58 = .ok (.ireturn, 1) := by decide +kernel
theorem dX7_takesCell_59 : decode cX7_takesCell 59 = .ok (.iconst 0, 1) := by decide +kernel
theorem dX7_takesCell_60 : decode cX7_takesCell 60 = .ok (.ireturn, 1) := by decide +kernel
theorem dX7_takesTuft_0 : decode cX7_takesTuft 0 = .ok (.aload_n 0, 1) := by decide +kernel
theorem dX7_takesTuft_1 : decode cX7_takesTuft 1 = .ok (.getfield 33, 3) := by decide +kernel
theorem dX7_takesTuft_4 : decode cX7_takesTuft 4 = .ok (.bipush 6, 2) := by decide +kernel
theorem dX7_takesTuft_6 : decode cX7_takesTuft 6 = .ok (.if_icmp .lt 5, 3) := by decide +kernel
theorem dX7_takesTuft_9 : decode cX7_takesTuft 9 = .ok (.iconst 0, 1) := by decide +kernel
theorem dX7_takesTuft_10 : decode cX7_takesTuft 10 = .ok (.ireturn, 1) := by decide +kernel
theorem dX7_takesTuft_11 : decode cX7_takesTuft 11 = .ok (.aload_n 0, 1) := by decide +kernel
theorem dX7_takesTuft_12 : decode cX7_takesTuft 12 = .ok (.getfield 15, 3) := by decide +kernel
theorem dX7_takesTuft_15 : decode cX7_takesTuft 15 = .ok (.aload_n 0, 1) := by decide +kernel
theorem dX7_takesTuft_16 : decode cX7_takesTuft 16 = .ok (.getfield 33, 3) := by decide +kernel
theorem dX7_takesTuft_19 : decode cX7_takesTuft 19 = .ok (.iload_n 1, 1) := by decide +kernel
theorem dX7_takesTuft_20 : decode cX7_takesTuft 20 = .ok (.iastore, 1) := by decide +kernel
theorem dX7_takesTuft_21 : decode cX7_takesTuft 21 = .ok (.aload_n 0, 1) := by decide +kernel
theorem dX7_takesTuft_22 : decode cX7_takesTuft 22 = .ok (.dup, 1) := by decide +kernel
theorem dX7_takesTuft_23 : decode cX7_takesTuft 23 = .ok (.getfield 33, 3) := by decide +kernel
theorem dX7_takesTuft_26 : decode cX7_takesTuft 26 = .ok (.iconst 1, 1) := by decide +kernel
theorem dX7_takesTuft_27 : decode cX7_takesTuft 27 = .ok (.iadd, 1) := by decide +kernel
theorem dX7_takesTuft_28 : decode cX7_takesTuft 28 = .ok (.putfield 33, 3) := by decide +kernel
theorem dX7_takesTuft_31 : decode cX7_takesTuft 31 = .ok (.iconst 1, 1) := by decide +kernel
theorem dX7_takesTuft_32 : decode cX7_takesTuft 32 = .ok (.ireturn, 1) := by decide +kernel
set_option maxRecDepth 20000 in
theorem ggX8_init_X4_init : GoodIn wsX8_init wsX4_init := goodIn_r _ [13, 14, 2, 3, 15, 16, 24, 25, 26, 27] (by decide +kernel) (by decide +kernel)
set_option maxRecDepth 20000 in
theorem gX8_init_X4_init_n9 : GoodIn wsX8_init (wsX4_init) := ggX8_init_X4_init
set_option maxRecDepth 20000 in
theorem ggX8_init_X1_init : GoodIn wsX8_init wsX1_init := goodIn_r _ [18, 19, 2, 3, 15, 20, 21, 22, 23, 31, 32, 33, 34, 35] (by decide +kernel) (by decide +kernel)
set_option maxRecDepth 20000 in
theorem gX8_init_X1_init_n18 : GoodIn wsX8_init (wsX1_init) := ggX8_init_X1_init
theorem dX8_init_0 : decode cX8_init 0 = .ok (.aload_n 0, 1) := by decide +kernel
theorem dX8_init_1 : decode cX8_init 1 = .ok (.invokespecial 1, 3) := by decide +kernel
theorem dX8_init_4 : decode cX8_init 4 = .ok (.aload_n 0, 1) := by decide +kernel
theorem dX8_init_5 : decode cX8_init 5 = .ok (.new 7, 3) := by decide +kernel
theorem dX8_init_8 : decode cX8_init 8 = .ok (.dup, 1) := by decide +kernel
theorem dX8_init_9 : decode cX8_init 9 = .ok (.invokespecial 9, 3) := by decide +kernel
theorem dX8_init_12 : decode cX8_init 12 = .ok (.putfield 10, 3) := by decide +kernel
theorem dX8_init_15 : decode cX8_init 15 = .ok (.aload_n 0, 1) := by decide +kernel
theorem dX8_init_16 : decode cX8_init 16 = .ok (.new 16, 3) := by decide +kernel
theorem dX8_init_19 : decode cX8_init 19 = .ok (.dup, 1) := by decide +kernel
theorem dX8_init_20 : decode cX8_init 20 = .ok (.invokespecial 18, 3) := by decide +kernel
theorem dX8_init_23 : decode cX8_init 23 = .ok (.putfield 19, 3) := by decide +kernel
theorem dX8_init_26 : decode cX8_init 26 = .ok (.return_, 1) := by decide +kernel
set_option maxRecDepth 20000 in
theorem ggX8_become_X4_become : GoodIn wsX8_become wsX4_become := goodIn_r _ [8, 9, 10, 11, 12, 13, 14, 15, 7, 16, 30, 31, 32, 33] (by decide +kernel) (by decide +kernel)
set_option maxRecDepth 20000 in
theorem gX8_become_X4_become : GoodIn wsX8_become (wsV RX8 23 RX4 yX4_become wsX4_become) := goodIn_app (goodIn_of _ (by decide +kernel)) ggX8_become_X4_become
set_option maxRecDepth 20000 in
theorem ggX8_become_X1_become : GoodIn wsX8_become wsX1_become := goodIn_r _ [21, 22, 23, 24, 25, 26, 34, 35, 36, 37, 38] (by decide +kernel) (by decide +kernel)
set_option maxRecDepth 20000 in
theorem gX8_become_X1_become : GoodIn wsX8_become (wsV RX8 27 RX1 yX1_become wsX1_become) := goodIn_app (goodIn_of _ (by decide +kernel)) ggX8_become_X1_become
theorem dX8_become_0 : decode cX8_become 0 = .ok (.aload_n 0, 1) := by decide +kernel
theorem dX8_become_1 : decode cX8_become 1 = .ok (.getfield 10, 3) := by decide +kernel
theorem dX8_become_4 : decode cX8_become 4 = .ok (.aload_n 1, 1) := by decide +kernel
theorem dX8_become_5 : decode cX8_become 5 = .ok (.getfield 10, 3) := by decide +kernel
theorem dX8_become_8 : decode cX8_become 8 = .ok (.invokevirtual 23, 3) := by decide +kernel
theorem dX8_become_11 : decode cX8_become 11 = .ok (.aload_n 0, 1) := by decide +kernel
theorem dX8_become_12 : decode cX8_become 12 = .ok (.getfield 19, 3) := by decide +kernel
theorem dX8_become_15 : decode cX8_become 15 = .ok (.aload_n 1, 1) := by decide +kernel
theorem dX8_become_16 : decode cX8_become 16 = .ok (.getfield 19, 3) := by decide +kernel
theorem dX8_become_19 : decode cX8_become 19 = .ok (.invokevirtual 27, 3) := by decide +kernel
theorem dX8_become_22 : decode cX8_become 22 = .ok (.aload_n 0, 1) := by decide +kernel
theorem dX8_become_23 : decode cX8_become 23 = .ok (.aload_n 1, 1) := by decide +kernel
theorem dX8_become_24 : decode cX8_become 24 = .ok (.getfield 30, 3) := by decide +kernel
theorem dX8_become_27 : decode cX8_become 27 = .ok (.putfield 30, 3) := by decide +kernel
theorem dX8_become_30 : decode cX8_become 30 = .ok (.return_, 1) := by decide +kernel
set_option maxRecDepth 20000 in
theorem ggX8_pass_X1_ache : GoodIn wsX8_pass wsX1_ache := goodIn_r _ [9, 10, 11, 12, 13, 14, 15, 8, 16, 17, 18, 19, 20, 78, 79, 80, 81, 82] (by decide +kernel) (by decide +kernel)
set_option maxRecDepth 20000 in
theorem gX8_pass_X1_ache : GoodIn wsX8_pass (wsV RX8 38 RX1 yX1_ache wsX1_ache) := goodIn_app (goodIn_of _ (by decide +kernel)) ggX8_pass_X1_ache
set_option maxRecDepth 20000 in
theorem ggX8_pass_X4_pass : GoodIn wsX8_pass wsX4_pass := goodIn_r _ [25, 26, 27, 28, 29, 30, 31, 32, 33, 34, 35, 36, 37, 38, 39, 40, 41, 42, 14, 15, 8, 16, 17, 43, 44, 45, 46, 47, 48, 49, 50, 51, 52, 53, 54, 55, 56, 57, 58, 19, 59, 60, 61, 24, 62, 63, 64, 65, 66, 10, 11, 13, 18, 20, 74, 75, 76, 77, 83, 84, 85, 78, 79, 80, 81, 82] (by decide +kernel) (by decide +kernel)
set_option maxRecDepth 20000 in
theorem gX8_pass_X4_pass : GoodIn wsX8_pass (wsV RX8 42 RX4 yX4_pass wsX4_pass) := goodIn_app (goodIn_of _ (by decide +kernel)) ggX8_pass_X4_pass
set_option maxRecDepth 20000 in
theorem ggX8_pass_X1_rise : GoodIn wsX8_pass wsX1_rise := goodIn_r _ [70, 10, 17, 78, 79, 80, 81, 82] (by decide +kernel) (by decide +kernel)
set_option maxRecDepth 20000 in
theorem gX8_pass_X1_rise : GoodIn wsX8_pass (wsV RX8 46 RX1 yX1_rise wsX1_rise) := goodIn_app (goodIn_of _ (by decide +kernel)) ggX8_pass_X1_rise
theorem dX8_pass_0 : decode cX8_pass 0 = .ok (.aload_n 0, 1) := by decide +kernel
theorem dX8_pass_1 : decode cX8_pass 1 = .ok (.getfield 19, 3) := by decide +kernel
theorem dX8_pass_4 : decode cX8_pass 4 = .ok (.aload_n 0, 1) := by decide +kernel
theorem dX8_pass_5 : decode cX8_pass 5 = .ok (.getfield 10, 3) := by decide +kernel
theorem dX8_pass_8 : decode cX8_pass 8 = .ok (.getfield 34, 3) := by decide +kernel
theorem dX8_pass_11 : decode cX8_pass 11 = .ok (.invokevirtual 38, 3) := by decide +kernel
theorem dX8_pass_14 : decode cX8_pass 14 = .ok (.aload_n 0, 1) := by decide +kernel
theorem dX8_pass_15 : decode cX8_pass 15 = .ok (.getfield 10, 3) := by decide +kernel
theorem dX8_pass_18 : decode cX8_pass 18 = .ok (.aload_n 0, 1) := by decide +kernel
theorem dX8_pass_19 : decode cX8_pass 19 = .ok (.getfield 19, 3) := by decide +kernel
theorem dX8_pass_22 : decode cX8_pass 22 = .ok (.aload_n 1, 1) := by decide +kernel
theorem dX8_pass_23 : decode cX8_pass 23 = .ok (.invokevirtual 42, 3) := by decide +kernel
theorem dX8_pass_26 : decode cX8_pass 26 = .ok (.istore_n 2, 1) := by decide +kernel
theorem dX8_pass_27 : decode cX8_pass 27 = .ok (.aload_n 0, 1) := by decide +kernel
theorem dX8_pass_28 : decode cX8_pass 28 = .ok (.getfield 19, 3) := by decide +kernel
theorem dX8_pass_31 : decode cX8_pass 31 = .ok (.invokevirtual 46, 3) := by decide +kernel
theorem dX8_pass_34 : decode cX8_pass 34 = .ok (.aload_n 0, 1) := by decide +kernel
theorem dX8_pass_35 : decode cX8_pass 35 = .ok (.dup, 1) := by decide +kernel
theorem dX8_pass_36 : decode cX8_pass 36 = .ok (.getfield 30, 3) := by decide +kernel
theorem dX8_pass_39 : decode cX8_pass 39 = .ok (.iconst 1, 1) := by decide +kernel
theorem dX8_pass_40 : decode cX8_pass 40 = .ok (.iadd, 1) := by decide +kernel
theorem dX8_pass_41 : decode cX8_pass 41 = .ok (.putfield 30, 3) := by decide +kernel
theorem dX8_pass_44 : decode cX8_pass 44 = .ok (.iload_n 2, 1) := by decide +kernel
theorem dX8_pass_45 : decode cX8_pass 45 = .ok (.ireturn, 1) := by decide +kernel
set_option maxRecDepth 20000 in
theorem ggX9_init_X7_init : GoodIn wsX9_init wsX7_init := goodIn_r _ [30, 31, 2, 3, 32, 33, 34, 35, 91, 92, 93, 94, 95] (by decide +kernel) (by decide +kernel)
set_option maxRecDepth 20000 in
theorem gX9_init_X7_init_n11 : GoodIn wsX9_init (wsX7_init) := ggX9_init_X7_init
set_option maxRecDepth 20000 in
theorem ggX9_init_X8_init : GoodIn wsX9_init wsX8_init := goodIn_r _ [37, 38, 2, 3, 39, 40, 41, 42, 43, 44, 45, 46, 47, 48, 49, 34, 50, 51, 52, 53, 54, 55, 56, 57, 124, 125, 126, 127, 104, 105, 106, 128, 129, 130, 131, 132] (by decide +kernel) (by decide +kernel)
set_option maxRecDepth 20000 in
theorem gX9_init_X8_init_n18 : GoodIn wsX9_init (wsX8_init) := ggX9_init_X8_init
set_option maxRecDepth 20000 in
theorem ggX9_init_X3_init : GoodIn wsX9_init wsX3_init := goodIn_r _ [59, 60, 2, 3, 61, 40, 41, 62, 63, 44, 45, 64, 65, 66, 67, 68, 69, 70, 47, 48, 49, 34, 50, 51, 52, 53, 54, 55, 56, 57, 71, 72, 73, 74, 75, 124, 125, 126, 127, 107, 108, 109, 110, 111, 112, 113, 128, 129, 130, 131, 132, 133, 134, 135] (by decide +kernel) (by decide +kernel)
set_option maxRecDepth 20000 in
theorem gX9_init_X3_init_n28 : GoodIn wsX9_init (wsX3_init) := ggX9_init_X3_init
set_option maxRecDepth 20000 in
theorem ggX9_init_X2_init : GoodIn wsX9_init wsX2_init := goodIn_r _ [77, 78, 2, 3, 34, 79, 80, 81, 114, 115, 116] (by decide +kernel) (by decide +kernel)
set_option maxRecDepth 20000 in
theorem gX9_init_X2_init_n35 : GoodIn wsX9_init (wsX2_init) := ggX9_init_X2_init
set_option maxRecDepth 20000 in
theorem ggX9_init_X0_init : GoodIn wsX9_init wsX0_init := goodIn_r _ [83, 84, 2, 3, 34, 85, 117, 118, 119] (by decide +kernel) (by decide +kernel)
set_option maxRecDepth 20000 in
theorem gX9_init_X0_init_n42 : GoodIn wsX9_init (wsX0_init) := ggX9_init_X0_init
set_option maxRecDepth 20000 in
theorem ggX9_init_X6_init : GoodIn wsX9_init wsX6_init := goodIn_r _ [87, 88, 2, 3, 89, 90, 120, 121, 122, 123] (by decide +kernel) (by decide +kernel)
set_option maxRecDepth 20000 in
theorem gX9_init_X6_init_n49 : GoodIn wsX9_init (wsX6_init) := ggX9_init_X6_init
