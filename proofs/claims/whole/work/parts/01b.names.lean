theorem dX0_init_0 : decode cX0_init 0 = .ok (.aload_n 0, 1) := by decide +kernel
theorem dX0_init_1 : decode cX0_init 1 = .ok (.invokespecial 3, 3) := by decide +kernel
theorem dX0_init_4 : decode cX0_init 4 = .ok (.aload_n 0, 1) := by decide +kernel
theorem dX0_init_5 : decode cX0_init 5 = .ok (.bipush 36, 2) := by decide +kernel
theorem dX0_init_7 : decode cX0_init 7 = .ok (.newarray .int, 2) := by decide +kernel
theorem dX0_init_9 : decode cX0_init 9 = .ok (.putfield 9, 3) := by decide +kernel
theorem dX0_init_12 : decode cX0_init 12 = .ok (.return_, 1) := by decide +kernel
set_option maxRecDepth 20000 in
theorem ggX0_measure_X4_walkable : GoodIn wsX0_measure wsX4_walkable := goodIn_r _ [11, 12, 13, 14, 10, 15, 16, 17, 18, 19, 20, 21, 22, 23, 42, 43, 44, 45] (by decide +kernel) (by decide +kernel)
set_option maxRecDepth 20000 in
theorem gX0_measure_X4_walkable : GoodIn wsX0_measure (wsV RX0 15 RX4 yX4_walkable wsX4_walkable) := goodIn_app (goodIn_of _ (by decide +kernel)) ggX0_measure_X4_walkable
set_option maxRecDepth 20000 in
theorem ggX0_measure_X0_canWalk : GoodIn wsX0_measure wsX0_canWalk := goodIn_r _ [28, 1, 21, 22, 23, 39, 40, 41] (by decide +kernel) (by decide +kernel)
set_option maxRecDepth 20000 in
theorem gX0_measure_X0_canWalk : GoodIn wsX0_measure (wsV RX0 36 RX0 yX0_canWalk wsX0_canWalk) := goodIn_app (goodIn_of _ (by decide +kernel)) ggX0_measure_X0_canWalk
set_option maxRecDepth 20000 in
theorem ggX0_measure_X0_improve : GoodIn wsX0_measure wsX0_improve := goodIn_r _ [32, 6, 24, 25, 26, 27, 28, 1, 21, 22, 23, 33, 34, 35, 36, 37, 38, 5, 39, 40, 41] (by decide +kernel) (by decide +kernel)
set_option maxRecDepth 20000 in
theorem gX0_measure_X0_improve : GoodIn wsX0_measure (wsV RX0 40 RX0 yX0_improve wsX0_improve) := goodIn_app (goodIn_of _ (by decide +kernel)) ggX0_measure_X0_improve
theorem dX0_measure_0 : decode cX0_measure 0 = .ok (.aload_n 0, 1) := by decide +kernel
theorem dX0_measure_1 : decode cX0_measure 1 = .ok (.aload_n 1, 1) := by decide +kernel
theorem dX0_measure_2 : decode cX0_measure 2 = .ok (.invokevirtual 15, 3) := by decide +kernel
theorem dX0_measure_5 : decode cX0_measure 5 = .ok (.putfield 21, 3) := by decide +kernel
theorem dX0_measure_8 : decode cX0_measure 8 = .ok (.aload_n 0, 1) := by decide +kernel
theorem dX0_measure_9 : decode cX0_measure 9 = .ok (.aload_n 1, 1) := by decide +kernel
theorem dX0_measure_10 : decode cX0_measure 10 = .ok (.getfield 24, 3) := by decide +kernel
theorem dX0_measure_13 : decode cX0_measure 13 = .ok (.ifCond .le 9, 3) := by decide +kernel
theorem dX0_measure_16 : decode cX0_measure 16 = .ok (.ldc2_w 28, 3) := by decide +kernel
theorem dX0_measure_19 : decode cX0_measure 19 = .ok (.goto 7, 3) := by decide +kernel
theorem dX0_measure_22 : decode cX0_measure 22 = .ok (.aload_n 1, 1) := by decide +kernel
theorem dX0_measure_23 : decode cX0_measure 23 = .ok (.getfield 30, 3) := by decide +kernel
theorem dX0_measure_26 : decode cX0_measure 26 = .ok (.putfield 33, 3) := by decide +kernel
theorem dX0_measure_29 : decode cX0_measure 29 = .ok (.iconst 0, 1) := by decide +kernel
theorem dX0_measure_30 : decode cX0_measure 30 = .ok (.istore_n 3, 1) := by decide +kernel
theorem dX0_measure_31 : decode cX0_measure 31 = .ok (.iload_n 3, 1) := by decide +kernel
theorem dX0_measure_32 : decode cX0_measure 32 = .ok (.bipush 36, 2) := by decide +kernel
theorem dX0_measure_34 : decode cX0_measure 34 = .ok (.if_icmp .ge 18, 3) := by decide +kernel
theorem dX0_measure_37 : decode cX0_measure 37 = .ok (.aload_n 0, 1) := by decide +kernel
theorem dX0_measure_38 : decode cX0_measure 38 = .ok (.getfield 9, 3) := by decide +kernel
theorem dX0_measure_41 : decode cX0_measure 41 = .ok (.iload_n 3, 1) := by decide +kernel
theorem dX0_measure_42 : decode cX0_measure 42 = .ok (.sipush 1000, 3) := by decide +kernel
theorem dX0_measure_45 : decode cX0_measure 45 = .ok (.iastore, 1) := by decide +kernel
theorem dX0_measure_46 : decode cX0_measure 46 = .ok (.iinc 3 1, 3) := by decide +kernel
theorem dX0_measure_49 : decode cX0_measure 49 = .ok (.goto (-18), 3) := by decide +kernel
theorem dX0_measure_52 : decode cX0_measure 52 = .ok (.aload_n 0, 1) := by decide +kernel
theorem dX0_measure_53 : decode cX0_measure 53 = .ok (.iload_n 2, 1) := by decide +kernel
theorem dX0_measure_54 : decode cX0_measure 54 = .ok (.invokevirtual 36, 3) := by decide +kernel
theorem dX0_measure_57 : decode cX0_measure 57 = .ok (.ifCond .eq 10, 3) := by decide +kernel
theorem dX0_measure_60 : decode cX0_measure 60 = .ok (.aload_n 0, 1) := by decide +kernel
theorem dX0_measure_61 : decode cX0_measure 61 = .ok (.getfield 9, 3) := by decide +kernel
theorem dX0_measure_64 : decode cX0_measure 64 = .ok (.iload_n 2, 1) := by decide +kernel
theorem dX0_measure_65 : decode cX0_measure 65 = .ok (.iconst 0, 1) := by decide +kernel
theorem dX0_measure_66 : decode cX0_measure 66 = .ok (.iastore, 1) := by decide +kernel
theorem dX0_measure_67 : decode cX0_measure 67 = .ok (.iconst 1, 1) := by decide +kernel
theorem dX0_measure_68 : decode cX0_measure 68 = .ok (.istore_n 3, 1) := by decide +kernel
theorem dX0_measure_69 : decode cX0_measure 69 = .ok (.iconst 0, 1) := by decide +kernel
theorem dX0_measure_70 : decode cX0_measure 70 = .ok (.istore 4, 2) := by decide +kernel
theorem dX0_measure_72 : decode cX0_measure 72 = .ok (.iload 4, 2) := by decide +kernel
theorem dX0_measure_74 : decode cX0_measure 74 = .ok (.bipush 36, 2) := by decide +kernel
theorem dX0_measure_76 : decode cX0_measure 76 = .ok (.if_icmp .ge 18, 3) := by decide +kernel
theorem dX0_measure_79 : decode cX0_measure 79 = .ok (.iload_n 3, 1) := by decide +kernel
theorem dX0_measure_80 : decode cX0_measure 80 = .ok (.ifCond .eq 14, 3) := by decide +kernel
theorem dX0_measure_83 : decode cX0_measure 83 = .ok (.aload_n 0, 1) := by decide +kernel
theorem dX0_measure_84 : decode cX0_measure 84 = .ok (.invokevirtual 40, 3) := by decide +kernel
theorem dX0_measure_87 : decode cX0_measure 87 = .ok (.istore_n 3, 1) := by decide +kernel
theorem dX0_measure_88 : decode cX0_measure 88 = .ok (.iinc 4 1, 3) := by decide +kernel
theorem dX0_measure_91 : decode cX0_measure 91 = .ok (.goto (-19), 3) := by decide +kernel
theorem dX0_measure_94 : decode cX0_measure 94 = .ok (.return_, 1) := by decide +kernel
set_option maxRecDepth 20000 in
theorem ggX0_improve_X0_canWalk : GoodIn wsX0_improve wsX0_canWalk := goodIn_r _ [6, 7, 8, 9, 10, 18, 19, 20] (by decide +kernel) (by decide +kernel)
set_option maxRecDepth 20000 in
theorem gX0_improve_X0_canWalk : GoodIn wsX0_improve (wsV RX0 36 RX0 yX0_canWalk wsX0_canWalk) := goodIn_app (goodIn_of _ (by decide +kernel)) ggX0_improve_X0_canWalk
set_option maxRecDepth 20000 in
theorem ggX0_improve_X9_neighbour : GoodIn wsX0_improve wsX9_neighbour := goodIn_r _ [12] (by decide +kernel) (by decide +kernel)
set_option maxRecDepth 20000 in
theorem gX0_improve_X9_neighbour_n44 : GoodIn wsX0_improve (wsX9_neighbour) := ggX0_improve_X9_neighbour
set_option maxRecDepth 20000 in
theorem ggX0_improve_X0_costOver : GoodIn wsX0_improve wsX0_costOver := goodIn_r _ [16, 1, 17, 2, 3, 4, 5, 6, 7, 8, 9, 10, 18, 19, 20] (by decide +kernel) (by decide +kernel)
set_option maxRecDepth 20000 in
theorem gX0_improve_X0_costOver : GoodIn wsX0_improve (wsV RX0 48 RX0 yX0_costOver wsX0_costOver) := goodIn_app (goodIn_of _ (by decide +kernel)) ggX0_improve_X0_costOver
theorem dX0_improve_0 : decode cX0_improve 0 = .ok (.iconst 0, 1) := by decide +kernel
theorem dX0_improve_1 : decode cX0_improve 1 = .ok (.istore_n 1, 1) := by decide +kernel
theorem dX0_improve_2 : decode cX0_improve 2 = .ok (.iconst 0, 1) := by decide +kernel
theorem dX0_improve_3 : decode cX0_improve 3 = .ok (.istore_n 2, 1) := by decide +kernel
theorem dX0_improve_4 : decode cX0_improve 4 = .ok (.iload_n 2, 1) := by decide +kernel
theorem dX0_improve_5 : decode cX0_improve 5 = .ok (.bipush 36, 2) := by decide +kernel
theorem dX0_improve_7 : decode cX0_improve 7 = .ok (.if_icmp .ge 68, 3) := by decide +kernel
theorem dX0_improve_10 : decode cX0_improve 10 = .ok (.iconst 0, 1) := by decide +kernel
theorem dX0_improve_11 : decode cX0_improve 11 = .ok (.istore_n 3, 1) := by decide +kernel
theorem dX0_improve_12 : decode cX0_improve 12 = .ok (.iload_n 3, 1) := by decide +kernel
theorem dX0_improve_13 : decode cX0_improve 13 = .ok (.iconst 4, 1) := by decide +kernel
theorem dX0_improve_14 : decode cX0_improve 14 = .ok (.if_icmp .ge 55, 3) := by decide +kernel
theorem dX0_improve_17 : decode cX0_improve 17 = .ok (.aload_n 0, 1) := by decide +kernel
theorem dX0_improve_18 : decode cX0_improve 18 = .ok (.iload_n 2, 1) := by decide +kernel
theorem dX0_improve_19 : decode cX0_improve 19 = .ok (.invokevirtual 36, 3) := by decide +kernel
theorem dX0_improve_22 : decode cX0_improve 22 = .ok (.ifCond .eq 15, 3) := by decide +kernel
theorem dX0_improve_25 : decode cX0_improve 25 = .ok (.aload_n 0, 1) := by decide +kernel
theorem dX0_improve_26 : decode cX0_improve 26 = .ok (.iload_n 2, 1) := by decide +kernel
theorem dX0_improve_27 : decode cX0_improve 27 = .ok (.iload_n 3, 1) := by decide +kernel
theorem dX0_improve_28 : decode cX0_improve 28 = .ok (.invokestatic 44, 3) := by decide +kernel
theorem dX0_improve_31 : decode cX0_improve 31 = .ok (.invokevirtual 48, 3) := by decide +kernel
theorem dX0_improve_34 : decode cX0_improve 34 = .ok (.goto 6, 3) := by decide +kernel
theorem dX0_improve_37 : decode cX0_improve 37 = .ok (.sipush 1000, 3) := by decide +kernel
theorem dX0_improve_40 : decode cX0_improve 40 = .ok (.istore 4, 2) := by decide +kernel
theorem dX0_improve_42 : decode cX0_improve 42 = .ok (.iload 4, 2) := by decide +kernel
theorem dX0_improve_44 : decode cX0_improve 44 = .ok (.aload_n 0, 1) := by decide +kernel
theorem dX0_improve_45 : decode cX0_improve 45 = .ok (.getfield 9, 3) := by decide +kernel
theorem dX0_improve_48 : decode cX0_improve 48 = .ok (.iload_n 2, 1) := by decide +kernel
theorem dX0_improve_49 : decode cX0_improve 49 = .ok (.iaload, 1) := by decide +kernel
theorem dX0_improve_50 : decode cX0_improve 50 = .ok (.if_icmp .ge 13, 3) := by decide +kernel
theorem dX0_improve_53 : decode cX0_improve 53 = .ok (.aload_n 0, 1) := by decide +kernel
theorem dX0_improve_54 : decode cX0_improve 54 = .ok (.getfield 9, 3) := by decide +kernel
theorem dX0_improve_57 : decode cX0_improve 57 = .ok (.iload_n 2, 1) := by decide +kernel
theorem dX0_improve_58 : decode cX0_improve 58 = .ok (.iload 4, 2) := by decide +kernel
theorem dX0_improve_60 : decode cX0_improve 60 = .ok (.iastore, 1) := by decide +kernel
theorem dX0_improve_61 : decode cX0_improve 61 = .ok (.iconst 1, 1) := by decide +kernel
theorem dX0_improve_62 : decode cX0_improve 62 = .ok (.istore_n 1, 1) := by decide +kernel
theorem dX0_improve_63 : decode cX0_improve 63 = .ok (.iinc 3 1, 3) := by decide +kernel
theorem dX0_improve_66 : decode cX0_improve 66 = .ok (.goto (-54), 3) := by decide +kernel
theorem dX0_improve_69 : decode cX0_improve 69 = .ok (.iinc 2 1, 3) := by decide +kernel
theorem dX0_improve_72 : decode cX0_improve 72 = .ok (.goto (-68), 3) := by decide +kernel
theorem dX0_improve_75 : decode cX0_improve 75 = .ok (.iload_n 1, 1) := by decide +kernel
theorem dX0_improve_76 : decode cX0_improve 76 = .ok (.ireturn, 1) := by decide +kernel
theorem dX0_reaches_0 : decode cX0_reaches 0 = .ok (.aload_n 0, 1) := by decide +kernel
theorem dX0_reaches_1 : decode cX0_reaches 1 = .ok (.getfield 9, 3) := by decide +kernel
theorem dX0_reaches_4 : decode cX0_reaches 4 = .ok (.iload_n 1, 1) := by decide +kernel
theorem dX0_reaches_5 : decode cX0_reaches 5 = .ok (.iaload, 1) := by decide +kernel
theorem dX0_reaches_6 : decode cX0_reaches 6 = .ok (.sipush 1000, 3) := by decide +kernel
theorem dX0_reaches_9 : decode cX0_reaches 9 = .ok (.if_icmp .ge 7, 3) := by decide +kernel
theorem dX0_reaches_12 : decode cX0_reaches 12 = .ok (.iconst 1, 1) := by decide +kernel
theorem dX0_reaches_13 : decode cX0_reaches 13 = .ok (.goto 4, 3) := by decide +kernel
theorem dX0_reaches_16 : decode cX0_reaches 16 = .ok (.iconst 0, 1) := by decide +kernel
theorem dX0_reaches_17 : decode cX0_reaches 17 = .ok (.ireturn, 1) := by decide +kernel
set_option maxRecDepth 20000 in
theorem ggX0_canWalk_X9_bit : GoodIn wsX0_canWalk wsX9_bit := goodIn_r _ [4] (by decide +kernel) (by decide +kernel)
set_option maxRecDepth 20000 in
theorem gX0_canWalk_X9_bit_n52 : GoodIn wsX0_canWalk (wsX9_bit) := ggX0_canWalk_X9_bit
theorem dX0_canWalk_0 : decode cX0_canWalk 0 = .ok (.aload_n 0, 1) := by decide +kernel
theorem dX0_canWalk_1 : decode cX0_canWalk 1 = .ok (.getfield 21, 3) := by decide +kernel
theorem dX0_canWalk_4 : decode cX0_canWalk 4 = .ok (.iload_n 1, 1) := by decide +kernel
theorem dX0_canWalk_5 : decode cX0_canWalk 5 = .ok (.invokestatic 52, 3) := by decide +kernel
theorem dX0_canWalk_8 : decode cX0_canWalk 8 = .ok (.land, 1) := by decide +kernel
theorem dX0_canWalk_9 : decode cX0_canWalk 9 = .ok (.lconst 0, 1) := by decide +kernel
theorem dX0_canWalk_10 : decode cX0_canWalk 10 = .ok (.lcmp, 1) := by decide +kernel
theorem dX0_canWalk_11 : decode cX0_canWalk 11 = .ok (.ifCond .eq 7, 3) := by decide +kernel
theorem dX0_canWalk_14 : decode cX0_canWalk 14 = .ok (.iconst 1, 1) := by decide +kernel
theorem dX0_canWalk_15 : decode cX0_canWalk 15 = .ok (.goto 4, 3) := by decide +kernel
theorem dX0_canWalk_18 : decode cX0_canWalk 18 = .ok (.iconst 0, 1) := by decide +kernel
theorem dX0_canWalk_19 : decode cX0_canWalk 19 = .ok (.ireturn, 1) := by decide +kernel
set_option maxRecDepth 20000 in
theorem ggX0_costOver_X0_canWalk : GoodIn wsX0_costOver wsX0_canWalk := goodIn_r _ [7, 8, 9, 10, 11, 12, 13, 14] (by decide +kernel) (by decide +kernel)
set_option maxRecDepth 20000 in
theorem gX0_costOver_X0_canWalk : GoodIn wsX0_costOver (wsV RX0 36 RX0 yX0_canWalk wsX0_canWalk) := goodIn_app (goodIn_of _ (by decide +kernel)) ggX0_costOver_X0_canWalk
set_option maxRecDepth 20000 in
theorem ggX0_costOver_X9_bit : GoodIn wsX0_costOver wsX9_bit := goodIn_r _ [11] (by decide +kernel) (by decide +kernel)
set_option maxRecDepth 20000 in
theorem gX0_costOver_X9_bit_n52 : GoodIn wsX0_costOver (wsX9_bit) := ggX0_costOver_X9_bit
theorem dX0_costOver_0 : decode cX0_costOver 0 = .ok (.iload_n 1, 1) := by decide +kernel
theorem dX0_costOver_1 : decode cX0_costOver 1 = .ok (.ifCond .lt 11, 3) := by decide +kernel
theorem dX0_costOver_4 : decode cX0_costOver 4 = .ok (.aload_n 0, 1) := by decide +kernel
theorem dX0_costOver_5 : decode cX0_costOver 5 = .ok (.iload_n 1, 1) := by decide +kernel
theorem dX0_costOver_6 : decode cX0_costOver 6 = .ok (.invokevirtual 36, 3) := by decide +kernel
theorem dX0_costOver_9 : decode cX0_costOver 9 = .ok (.ifCond .ne 7, 3) := by decide +kernel
theorem dX0_costOver_12 : decode cX0_costOver 12 = .ok (.sipush 1000, 3) := by decide +kernel
theorem dX0_costOver_15 : decode cX0_costOver 15 = .ok (.ireturn, 1) := by decide +kernel
theorem dX0_costOver_16 : decode cX0_costOver 16 = .ok (.aload_n 0, 1) := by decide +kernel
theorem dX0_costOver_17 : decode cX0_costOver 17 = .ok (.getfield 9, 3) := by decide +kernel
theorem dX0_costOver_20 : decode cX0_costOver 20 = .ok (.iload_n 1, 1) := by decide +kernel
theorem dX0_costOver_21 : decode cX0_costOver 21 = .ok (.iaload, 1) := by decide +kernel
theorem dX0_costOver_22 : decode cX0_costOver 22 = .ok (.aload_n 0, 1) := by decide +kernel
theorem dX0_costOver_23 : decode cX0_costOver 23 = .ok (.getfield 33, 3) := by decide +kernel
theorem dX0_costOver_26 : decode cX0_costOver 26 = .ok (.iload_n 1, 1) := by decide +kernel
theorem dX0_costOver_27 : decode cX0_costOver 27 = .ok (.invokestatic 52, 3) := by decide +kernel
theorem dX0_costOver_30 : decode cX0_costOver 30 = .ok (.land, 1) := by decide +kernel
theorem dX0_costOver_31 : decode cX0_costOver 31 = .ok (.lconst 0, 1) := by decide +kernel
theorem dX0_costOver_32 : decode cX0_costOver 32 = .ok (.lcmp, 1) := by decide +kernel
theorem dX0_costOver_33 : decode cX0_costOver 33 = .ok (.ifCond .eq 7, 3) := by decide +kernel
theorem dX0_costOver_36 : decode cX0_costOver 36 = .ok (.iconst 1, 1) := by decide +kernel
theorem dX0_costOver_37 : decode cX0_costOver 37 = .ok (.goto 4, 3) := by decide +kernel
theorem dX0_costOver_40 : decode cX0_costOver 40 = .ok (.iconst 2, 1) := by decide +kernel
theorem dX0_costOver_41 : decode cX0_costOver 41 = .ok (.iadd, 1) := by decide +kernel
theorem dX0_costOver_42 : decode cX0_costOver 42 = .ok (.ireturn, 1) := by decide +kernel
set_option maxRecDepth 20000 in
theorem ggX0_stop_X0_nextStop : GoodIn wsX0_stop wsX0_nextStop := goodIn_r _ [5, 6, 7, 8, 9, 10, 11, 12, 4, 13, 14, 15, 16, 17, 18, 19, 20, 21, 22, 23, 24] (by decide +kernel) (by decide +kernel)
set_option maxRecDepth 20000 in
theorem gX0_stop_X0_nextStop : GoodIn wsX0_stop (wsV RX0 56 RX0 yX0_nextStop wsX0_nextStop) := goodIn_app (goodIn_of _ (by decide +kernel)) ggX0_stop_X0_nextStop
theorem dX0_stop_0 : decode cX0_stop 0 = .ok (.iload_n 1, 1) := by decide +kernel
theorem dX0_stop_1 : decode cX0_stop 1 = .ok (.istore_n 3, 1) := by decide +kernel
theorem dX0_stop_2 : decode cX0_stop 2 = .ok (.iconst 0, 1) := by decide +kernel
theorem dX0_stop_3 : decode cX0_stop 3 = .ok (.istore 4, 2) := by decide +kernel
theorem dX0_stop_5 : decode cX0_stop 5 = .ok (.iload 4, 2) := by decide +kernel
theorem dX0_stop_7 : decode cX0_stop 7 = .ok (.iload_n 2, 1) := by decide +kernel
theorem dX0_stop_8 : decode cX0_stop 8 = .ok (.if_icmp .gt 19, 3) := by decide +kernel
theorem dX0_stop_11 : decode cX0_stop 11 = .ok (.iload_n 3, 1) := by decide +kernel
theorem dX0_stop_12 : decode cX0_stop 12 = .ok (.ifCond .lt 15, 3) := by decide +kernel
theorem dX0_stop_15 : decode cX0_stop 15 = .ok (.aload_n 0, 1) := by decide +kernel
theorem dX0_stop_16 : decode cX0_stop 16 = .ok (.iload_n 3, 1) := by decide +kernel
theorem dX0_stop_17 : decode cX0_stop 17 = .ok (.invokevirtual 56, 3) := by decide +kernel
theorem dX0_stop_20 : decode cX0_stop 20 = .ok (.istore_n 3, 1) := by decide +kernel
theorem dX0_stop_21 : decode cX0_stop 21 = .ok (.iinc 4 1, 3) := by decide +kernel
theorem dX0_stop_24 : decode cX0_stop 24 = .ok (.goto (-19), 3) := by decide +kernel
theorem dX0_stop_27 : decode cX0_stop 27 = .ok (.iload_n 3, 1) := by decide +kernel
theorem dX0_stop_28 : decode cX0_stop 28 = .ok (.ireturn, 1) := by decide +kernel
set_option maxRecDepth 20000 in
theorem ggX0_nextStop_X9_neighbour : GoodIn wsX0_nextStop wsX9_neighbour := goodIn_r _ [4] (by decide +kernel) (by decide +kernel)
set_option maxRecDepth 20000 in
theorem gX0_nextStop_X9_neighbour_n44 : GoodIn wsX0_nextStop (wsX9_neighbour) := ggX0_nextStop_X9_neighbour
set_option maxRecDepth 20000 in
theorem ggX0_nextStop_X0_costOver : GoodIn wsX0_nextStop wsX0_costOver := goodIn_r _ [9, 1, 10, 11, 12, 13, 8, 14, 15, 16, 3, 17, 18, 19, 20] (by decide +kernel) (by decide +kernel)
set_option maxRecDepth 20000 in
theorem gX0_nextStop_X0_costOver : GoodIn wsX0_nextStop (wsV RX0 48 RX0 yX0_costOver wsX0_costOver) := goodIn_app (goodIn_of _ (by decide +kernel)) ggX0_nextStop_X0_costOver
theorem dX0_nextStop_0 : decode cX0_nextStop 0 = .ok (.aload_n 0, 1) := by decide +kernel
theorem dX0_nextStop_1 : decode cX0_nextStop 1 = .ok (.getfield 9, 3) := by decide +kernel
theorem dX0_nextStop_4 : decode cX0_nextStop 4 = .ok (.iload_n 1, 1) := by decide +kernel
theorem dX0_nextStop_5 : decode cX0_nextStop 5 = .ok (.iaload, 1) := by decide +kernel
theorem dX0_nextStop_6 : decode cX0_nextStop 6 = .ok (.ifCond .ne 6, 3) := by decide +kernel
theorem dX0_nextStop_9 : decode cX0_nextStop 9 = .ok (.bipush (-4), 2) := by decide +kernel
theorem dX0_nextStop_11 : decode cX0_nextStop 11 = .ok (.ireturn, 1) := by decide +kernel
theorem dX0_nextStop_12 : decode cX0_nextStop 12 = .ok (.iconst 0, 1) := by decide +kernel
theorem dX0_nextStop_13 : decode cX0_nextStop 13 = .ok (.istore_n 2, 1) := by decide +kernel
theorem dX0_nextStop_14 : decode cX0_nextStop 14 = .ok (.iload_n 2, 1) := by decide +kernel
theorem dX0_nextStop_15 : decode cX0_nextStop 15 = .ok (.iconst 4, 1) := by decide +kernel
theorem dX0_nextStop_16 : decode cX0_nextStop 16 = .ok (.if_icmp .ge 31, 3) := by decide +kernel
theorem dX0_nextStop_19 : decode cX0_nextStop 19 = .ok (.iload_n 1, 1) := by decide +kernel
theorem dX0_nextStop_20 : decode cX0_nextStop 20 = .ok (.iload_n 2, 1) := by decide +kernel
theorem dX0_nextStop_21 : decode cX0_nextStop 21 = .ok (.invokestatic 44, 3) := by decide +kernel
theorem dX0_nextStop_24 : decode cX0_nextStop 24 = .ok (.istore_n 3, 1) := by decide +kernel
theorem dX0_nextStop_25 : decode cX0_nextStop 25 = .ok (.aload_n 0, 1) := by decide +kernel
theorem dX0_nextStop_26 : decode cX0_nextStop 26 = .ok (.iload_n 3, 1) := by decide +kernel
theorem dX0_nextStop_27 : decode cX0_nextStop 27 = .ok (.invokevirtual 48, 3) := by decide +kernel
theorem dX0_nextStop_30 : decode cX0_nextStop 30 = .ok (.aload_n 0, 1) := by decide +kernel
theorem dX0_nextStop_31 : decode cX0_nextStop 31 = .ok (.getfield 9, 3) := by decide +kernel
theorem dX0_nextStop_34 : decode cX0_nextStop 34 = .ok (.iload_n 1, 1) := by decide +kernel
theorem dX0_nextStop_35 : decode cX0_nextStop 35 = .ok (.iaload, 1) := by decide +kernel
theorem dX0_nextStop_36 : decode cX0_nextStop 36 = .ok (.if_icmp .ne 5, 3) := by decide +kernel
theorem dX0_nextStop_39 : decode cX0_nextStop 39 = .ok (.iload_n 3, 1) := by decide +kernel
theorem dX0_nextStop_40 : decode cX0_nextStop 40 = .ok (.ireturn, 1) := by decide +kernel
theorem dX0_nextStop_41 : decode cX0_nextStop 41 = .ok (.iinc 2 1, 3) := by decide +kernel
theorem dX0_nextStop_44 : decode cX0_nextStop 44 = .ok (.goto (-30), 3) := by decide +kernel
theorem dX0_nextStop_47 : decode cX0_nextStop 47 = .ok (.bipush (-4), 2) := by decide +kernel
theorem dX0_nextStop_49 : decode cX0_nextStop 49 = .ok (.ireturn, 1) := by decide +kernel
theorem dX1_init_0 : decode cX1_init 0 = .ok (.aload_n 0, 1) := by decide +kernel
theorem dX1_init_1 : decode cX1_init 1 = .ok (.invokespecial 3, 3) := by decide +kernel
theorem dX1_init_4 : decode cX1_init 4 = .ok (.aload_n 0, 1) := by decide +kernel
theorem dX1_init_5 : decode cX1_init 5 = .ok (.bipush 6, 2) := by decide +kernel
theorem dX1_init_7 : decode cX1_init 7 = .ok (.newarray .int, 2) := by decide +kernel
theorem dX1_init_9 : decode cX1_init 9 = .ok (.putfield 9, 3) := by decide +kernel
theorem dX1_init_12 : decode cX1_init 12 = .ok (.aload_n 0, 1) := by decide +kernel
theorem dX1_init_13 : decode cX1_init 13 = .ok (.bipush 6, 2) := by decide +kernel
theorem dX1_init_15 : decode cX1_init 15 = .ok (.newarray .int, 2) := by decide +kernel
theorem dX1_init_17 : decode cX1_init 17 = .ok (.putfield 15, 3) := by decide +kernel
theorem dX1_init_20 : decode cX1_init 20 = .ok (.aload_n 0, 1) := by decide +kernel
theorem dX1_init_21 : decode cX1_init 21 = .ok (.bipush 6, 2) := by decide +kernel
theorem dX1_init_23 : decode cX1_init 23 = .ok (.newarray .int, 2) := by decide +kernel
theorem dX1_init_25 : decode cX1_init 25 = .ok (.putfield 18, 3) := by decide +kernel
theorem dX1_init_28 : decode cX1_init 28 = .ok (.aload_n 0, 1) := by decide +kernel
theorem dX1_init_29 : decode cX1_init 29 = .ok (.bipush 6, 2) := by decide +kernel
theorem dX1_init_31 : decode cX1_init 31 = .ok (.newarray .int, 2) := by decide +kernel
theorem dX1_init_33 : decode cX1_init 33 = .ok (.putfield 21, 3) := by decide +kernel
theorem dX1_init_36 : decode cX1_init 36 = .ok (.return_, 1) := by decide +kernel
theorem dX1_become_0 : decode cX1_become 0 = .ok (.aload_n 0, 1) := by decide +kernel
theorem dX1_become_1 : decode cX1_become 1 = .ok (.aload_n 1, 1) := by decide +kernel
theorem dX1_become_2 : decode cX1_become 2 = .ok (.getfield 24, 3) := by decide +kernel
theorem dX1_become_5 : decode cX1_become 5 = .ok (.putfield 24, 3) := by decide +kernel
theorem dX1_become_8 : decode cX1_become 8 = .ok (.iconst 0, 1) := by decide +kernel
theorem dX1_become_9 : decode cX1_become 9 = .ok (.istore_n 2, 1) := by decide +kernel
theorem dX1_become_10 : decode cX1_become 10 = .ok (.iload_n 2, 1) := by decide +kernel
theorem dX1_become_11 : decode cX1_become 11 = .ok (.aload_n 0, 1) := by decide +kernel
theorem dX1_become_12 : decode cX1_become 12 = .ok (.getfield 24, 3) := by decide +kernel
theorem dX1_become_15 : decode cX1_become 15 = .ok (.if_icmp .ge 57, 3) := by decide +kernel
theorem dX1_become_18 : decode cX1_become 18 = .ok (.aload_n 0, 1) := by decide +kernel
theorem dX1_become_19 : decode cX1_become 19 = .ok (.getfield 9, 3) := by decide +kernel
theorem dX1_become_22 : decode cX1_become 22 = .ok (.iload_n 2, 1) := by decide +kernel
theorem dX1_become_23 : decode cX1_become 23 = .ok (.aload_n 1, 1) := by decide +kernel
theorem dX1_become_24 : decode cX1_become 24 = .ok (.getfield 9, 3) := by decide +kernel
theorem dX1_become_27 : decode cX1_become 27 = .ok (.iload_n 2, 1) := by decide +kernel
theorem dX1_become_28 : decode cX1_become 28 = .ok (.iaload, 1) := by decide +kernel
theorem dX1_become_29 : decode cX1_become 29 = .ok (.iastore, 1) := by decide +kernel
theorem dX1_become_30 : decode cX1_become 30 = .ok (.aload_n 0, 1) := by decide +kernel
theorem dX1_become_31 : decode cX1_become 31 = .ok (.getfield 15, 3) := by decide +kernel
theorem dX1_become_34 : decode cX1_become 34 = .ok (.iload_n 2, 1) := by decide +kernel
theorem dX1_become_35 : decode cX1_become 35 = .ok (.aload_n 1, 1) := by decide +kernel
theorem dX1_become_36 : decode cX1_become 36 = .ok (.getfield 15, 3) := by decide +kernel
theorem dX1_become_39 : decode cX1_become 39 = .ok (.iload_n 2, 1) := by decide +kernel
theorem dX1_become_40 : decode cX1_become 40 = .ok (.iaload, 1) := by decide +kernel
theorem dX1_become_41 : decode cX1_become 41 = .ok (.iastore, 1) := by decide +kernel
theorem dX1_become_42 : decode cX1_become 42 = .ok (.aload_n 0, 1) := by decide +kernel
theorem dX1_become_43 : decode cX1_become 43 = .ok (.getfield 18, 3) := by decide +kernel
theorem dX1_become_46 : decode cX1_become 46 = .ok (.iload_n 2, 1) := by decide +kernel
theorem dX1_become_47 : decode cX1_become 47 = .ok (.aload_n 1, 1) := by decide +kernel
theorem dX1_become_48 : decode cX1_become 48 = .ok (.getfield 18, 3) := by decide +kernel
theorem dX1_become_51 : decode cX1_become 51 = .ok (.iload_n 2, 1) := by decide +kernel
theorem dX1_become_52 : decode cX1_become 52 = .ok (.iaload, 1) := by decide +kernel
theorem dX1_become_53 : decode cX1_become 53 = .ok (.iastore, 1) := by decide +kernel
theorem dX1_become_54 : decode cX1_become 54 = .ok (.aload_n 0, 1) := by decide +kernel
theorem dX1_become_55 : decode cX1_become 55 = .ok (.getfield 21, 3) := by decide +kernel
theorem dX1_become_58 : decode cX1_become 58 = .ok (.iload_n 2, 1) := by decide +kernel
theorem dX1_become_59 : decode cX1_become 59 = .ok (.aload_n 1, 1) := by decide +kernel
theorem dX1_become_60 : decode cX1_become 60 = .ok (.getfield 21, 3) := by decide +kernel
theorem dX1_become_63 : decode cX1_become 63 = .ok (.iload_n 2, 1) := by decide +kernel
theorem dX1_become_64 : decode cX1_become 64 = .ok (.iaload, 1) := by decide +kernel
theorem dX1_become_65 : decode cX1_become 65 = .ok (.iastore, 1) := by decide +kernel
theorem dX1_become_66 : decode cX1_become 66 = .ok (.iinc 2 1, 3) := by decide +kernel
theorem dX1_become_69 : decode cX1_become 69 = .ok (.goto (-59), 3) := by decide +kernel
theorem dX1_become_72 : decode cX1_become 72 = .ok (.return_, 1) := by decide +kernel
set_option maxRecDepth 20000 in
theorem ggX1_add_X1_seat : GoodIn wsX1_add wsX1_seat := goodIn_r _ [8, 9, 10, 11, 12, 13, 14, 15] (by decide +kernel) (by decide +kernel)
set_option maxRecDepth 20000 in
theorem gX1_add_X1_seat : GoodIn wsX1_add (wsV RX1 28 RX1 yX1_seat wsX1_seat) := goodIn_app (goodIn_of _ (by decide +kernel)) ggX1_add_X1_seat
theorem dX1_add_0 : decode cX1_add 0 = .ok (.aload_n 0, 1) := by decide +kernel
theorem dX1_add_1 : decode cX1_add 1 = .ok (.getfield 24, 3) := by decide +kernel
theorem dX1_add_4 : decode cX1_add 4 = .ok (.istore_n 2, 1) := by decide +kernel
theorem dX1_add_5 : decode cX1_add 5 = .ok (.aload_n 0, 1) := by decide +kernel
theorem dX1_add_6 : decode cX1_add 6 = .ok (.getfield 9, 3) := by decide +kernel
theorem dX1_add_9 : decode cX1_add 9 = .ok (.iload_n 2, 1) := by decide +kernel
theorem dX1_add_10 : decode cX1_add 10 = .ok (.iload_n 1, 1) := by decide +kernel
theorem dX1_add_11 : decode cX1_add 11 = .ok (.iastore, 1) := by decide +kernel
theorem dX1_add_12 : decode cX1_add 12 = .ok (.aload_n 0, 1) := by decide +kernel
theorem dX1_add_13 : decode cX1_add 13 = .ok (.iload_n 2, 1) := by decide +kernel
theorem dX1_add_14 : decode cX1_add 14 = .ok (.iconst 0, 1) := by decide +kernel
theorem dX1_add_15 : decode cX1_add 15 = .ok (.iconst 0, 1) := by decide +kernel
theorem dX1_add_16 : decode cX1_add 16 = .ok (.invokevirtual 28, 3) := by decide +kernel
theorem dX1_add_19 : decode cX1_add 19 = .ok (.aload_n 0, 1) := by decide +kernel
theorem dX1_add_20 : decode cX1_add 20 = .ok (.getfield 21, 3) := by decide +kernel
theorem dX1_add_23 : decode cX1_add 23 = .ok (.iload_n 2, 1) := by decide +kernel
theorem dX1_add_24 : decode cX1_add 24 = .ok (.iconst 0, 1) := by decide +kernel
theorem dX1_add_25 : decode cX1_add 25 = .ok (.iastore, 1) := by decide +kernel
theorem dX1_add_26 : decode cX1_add 26 = .ok (.aload_n 0, 1) := by decide +kernel
theorem dX1_add_27 : decode cX1_add 27 = .ok (.dup, 1) := by decide +kernel
theorem dX1_add_28 : decode cX1_add 28 = .ok (.getfield 24, 3) := by decide +kernel
theorem dX1_add_31 : decode cX1_add 31 = .ok (.iconst 1, 1) := by decide +kernel
theorem dX1_add_32 : decode cX1_add 32 = .ok (.iadd, 1) := by decide +kernel
theorem dX1_add_33 : decode cX1_add 33 = .ok (.putfield 24, 3) := by decide +kernel
theorem dX1_add_36 : decode cX1_add 36 = .ok (.iload_n 2, 1) := by decide +kernel
theorem dX1_add_37 : decode cX1_add 37 = .ok (.ireturn, 1) := by decide +kernel
theorem dX1_seat_0 : decode cX1_seat 0 = .ok (.aload_n 0, 1) := by decide +kernel
theorem dX1_seat_1 : decode cX1_seat 1 = .ok (.getfield 15, 3) := by decide +kernel
theorem dX1_seat_4 : decode cX1_seat 4 = .ok (.iload_n 1, 1) := by decide +kernel
theorem dX1_seat_5 : decode cX1_seat 5 = .ok (.iload_n 2, 1) := by decide +kernel
theorem dX1_seat_6 : decode cX1_seat 6 = .ok (.iastore, 1) := by decide +kernel
theorem dX1_seat_7 : decode cX1_seat 7 = .ok (.aload_n 0, 1) := by decide +kernel
theorem dX1_seat_8 : decode cX1_seat 8 = .ok (.getfield 18, 3) := by decide +kernel
theorem dX1_seat_11 : decode cX1_seat 11 = .ok (.iload_n 1, 1) := by decide +kernel
theorem dX1_seat_12 : decode cX1_seat 12 = .ok (.iload_n 3, 1) := by decide +kernel
theorem dX1_seat_13 : decode cX1_seat 13 = .ok (.iastore, 1) := by decide +kernel
theorem dX1_seat_14 : decode cX1_seat 14 = .ok (.return_, 1) := by decide +kernel
theorem dX1_rise_0 : decode cX1_rise 0 = .ok (.iconst 0, 1) := by decide +kernel
theorem dX1_rise_1 : decode cX1_rise 1 = .ok (.istore_n 1, 1) := by decide +kernel
theorem dX1_rise_2 : decode cX1_rise 2 = .ok (.iload_n 1, 1) := by decide +kernel
theorem dX1_rise_3 : decode cX1_rise 3 = .ok (.aload_n 0, 1) := by decide +kernel
theorem dX1_rise_4 : decode cX1_rise 4 = .ok (.getfield 24, 3) := by decide +kernel
theorem dX1_rise_7 : decode cX1_rise 7 = .ok (.if_icmp .ge 16, 3) := by decide +kernel
theorem dX1_rise_10 : decode cX1_rise 10 = .ok (.aload_n 0, 1) := by decide +kernel
theorem dX1_rise_11 : decode cX1_rise 11 = .ok (.getfield 18, 3) := by decide +kernel
theorem dX1_rise_14 : decode cX1_rise 14 = .ok (.iload_n 1, 1) := by decide +kernel
theorem dX1_rise_15 : decode cX1_rise 15 = .ok (.iconst 0, 1) := by decide +kernel
theorem dX1_rise_16 : decode cX1_rise 16 = .ok (.iastore, 1) := by decide +kernel
theorem dX1_rise_17 : decode cX1_rise 17 = .ok (.iinc 1 1, 3) := by decide +kernel
theorem dX1_rise_20 : decode cX1_rise 20 = .ok (.goto (-18), 3) := by decide +kernel
theorem dX1_rise_23 : decode cX1_rise 23 = .ok (.return_, 1) := by decide +kernel
theorem dX1_sits_0 : decode cX1_sits 0 = .ok (.aload_n 0, 1) := by decide +kernel
theorem dX1_sits_1 : decode cX1_sits 1 = .ok (.getfield 18, 3) := by decide +kernel
theorem dX1_sits_4 : decode cX1_sits 4 = .ok (.iload_n 1, 1) := by decide +kernel
theorem dX1_sits_5 : decode cX1_sits 5 = .ok (.iaload, 1) := by decide +kernel
theorem dX1_sits_6 : decode cX1_sits 6 = .ok (.ifCond .le 7, 3) := by decide +kernel
theorem dX1_sits_9 : decode cX1_sits 9 = .ok (.iconst 1, 1) := by decide +kernel
theorem dX1_sits_10 : decode cX1_sits 10 = .ok (.goto 4, 3) := by decide +kernel
theorem dX1_sits_13 : decode cX1_sits 13 = .ok (.iconst 0, 1) := by decide +kernel
theorem dX1_sits_14 : decode cX1_sits 14 = .ok (.ireturn, 1) := by decide +kernel
theorem dX1_weight_0 : decode cX1_weight 0 = .ok (.aload_n 0, 1) := by decide +kernel
theorem dX1_weight_1 : decode cX1_weight 1 = .ok (.getfield 9, 3) := by decide +kernel
theorem dX1_weight_4 : decode cX1_weight 4 = .ok (.iload_n 1, 1) := by decide +kernel
theorem dX1_weight_5 : decode cX1_weight 5 = .ok (.iaload, 1) := by decide +kernel
theorem dX1_weight_6 : decode cX1_weight 6 = .ok (.tableswitch 44 1 3 #[26, 35, 26], 26) := by decide +kernel
theorem dX1_weight_32 : decode cX1_weight 32 = .ok (.iconst 2, 1) := by decide +kernel
theorem dX1_weight_33 : decode cX1_weight 33 = .ok (.aload_n 0, 1) := by decide +kernel
theorem dX1_weight_34 : decode cX1_weight 34 = .ok (.getfield 18, 3) := by decide +kernel
theorem dX1_weight_37 : decode cX1_weight 37 = .ok (.iload_n 1, 1) := by decide +kernel
theorem dX1_weight_38 : decode cX1_weight 38 = .ok (.iaload, 1) := by decide +kernel
theorem dX1_weight_39 : decode cX1_weight 39 = .ok (.imul, 1) := by decide +kernel
theorem dX1_weight_40 : decode cX1_weight 40 = .ok (.ireturn, 1) := by decide +kernel
theorem dX1_weight_41 : decode cX1_weight 41 = .ok (.aload_n 0, 1) := by decide +kernel
theorem dX1_weight_42 : decode cX1_weight 42 = .ok (.getfield 18, 3) := by decide +kernel
theorem dX1_weight_45 : decode cX1_weight 45 = .ok (.iload_n 1, 1) := by decide +kernel
theorem dX1_weight_46 : decode cX1_weight 46 = .ok (.iaload, 1) := by decide +kernel
theorem dX1_weight_47 : decode cX1_weight 47 = .ok (.iconst 2, 1) := by decide +kernel
theorem dX1_weight_48 : decode cX1_weight 48 = .ok (.idiv, 1) := by decide +kernel
theorem dX1_weight_49 : decode cX1_weight 49 = .ok (.ireturn, 1) := by decide +kernel
theorem dX1_weight_50 : decode cX1_weight 50 = .ok (.aload_n 0, 1) := by decide +kernel
theorem dX1_weight_51 : decode cX1_weight 51 = .ok (.getfield 18, 3) := by decide +kernel
theorem dX1_weight_54 : decode cX1_weight 54 = .ok (.iload_n 1, 1) := by decide +kernel
theorem dX1_weight_55 : decode cX1_weight 55 = .ok (.iaload, 1) := by decide +kernel
theorem dX1_weight_56 : decode cX1_weight 56 = .ok (.ireturn, 1) := by decide +kernel
set_option maxRecDepth 20000 in
theorem ggX1_isSeat_X1_sits : GoodIn wsX1_isSeat wsX1_sits := goodIn_r _ [7, 8, 9, 10, 11, 12, 13] (by decide +kernel) (by decide +kernel)
set_option maxRecDepth 20000 in
theorem gX1_isSeat_X1_sits : GoodIn wsX1_isSeat (wsV RX1 32 RX1 yX1_sits wsX1_sits) := goodIn_app (goodIn_of _ (by decide +kernel)) ggX1_isSeat_X1_sits
theorem dX1_isSeat_0 : decode cX1_isSeat 0 = .ok (.iconst 0, 1) := by decide +kernel
theorem dX1_isSeat_1 : decode cX1_isSeat 1 = .ok (.istore_n 2, 1) := by decide +kernel
theorem dX1_isSeat_2 : decode cX1_isSeat 2 = .ok (.iload_n 2, 1) := by decide +kernel
theorem dX1_isSeat_3 : decode cX1_isSeat 3 = .ok (.aload_n 0, 1) := by decide +kernel
theorem dX1_isSeat_4 : decode cX1_isSeat 4 = .ok (.getfield 24, 3) := by decide +kernel
theorem dX1_isSeat_7 : decode cX1_isSeat 7 = .ok (.if_icmp .ge 29, 3) := by decide +kernel
theorem dX1_isSeat_10 : decode cX1_isSeat 10 = .ok (.aload_n 0, 1) := by decide +kernel
theorem dX1_isSeat_11 : decode cX1_isSeat 11 = .ok (.iload_n 2, 1) := by decide +kernel
theorem dX1_isSeat_12 : decode cX1_isSeat 12 = .ok (.invokevirtual 32, 3) := by decide +kernel
theorem dX1_isSeat_15 : decode cX1_isSeat 15 = .ok (.ifCond .eq 15, 3) := by decide +kernel
theorem dX1_isSeat_18 : decode cX1_isSeat 18 = .ok (.aload_n 0, 1) := by decide +kernel
theorem dX1_isSeat_19 : decode cX1_isSeat 19 = .ok (.getfield 15, 3) := by decide +kernel
theorem dX1_isSeat_22 : decode cX1_isSeat 22 = .ok (.iload_n 2, 1) := by decide +kernel
theorem dX1_isSeat_23 : decode cX1_isSeat 23 = .ok (.iaload, 1) := by decide +kernel
theorem dX1_isSeat_24 : decode cX1_isSeat 24 = .ok (.iload_n 1, 1) := by decide +kernel
theorem dX1_isSeat_25 : decode cX1_isSeat 25 = .ok (.if_icmp .ne 5, 3) := by decide +kernel
theorem dX1_isSeat_28 : decode cX1_isSeat 28 = .ok (.iconst 1, 1) := by decide +kernel
theorem dX1_isSeat_29 : decode cX1_isSeat 29 = .ok (.ireturn, 1) := by decide +kernel
theorem dX1_isSeat_30 : decode cX1_isSeat 30 = .ok (.iinc 2 1, 3) := by decide +kernel
theorem dX1_isSeat_33 : decode cX1_isSeat 33 = .ok (.goto (-31), 3) := by decide +kernel
theorem dX1_isSeat_36 : decode cX1_isSeat 36 = .ok (.iconst 0, 1) := by decide +kernel
theorem dX1_isSeat_37 : decode cX1_isSeat 37 = .ok (.ireturn, 1) := by decide +kernel
set_option maxRecDepth 20000 in
theorem ggX1_weightIn_X1_sits : GoodIn wsX1_weightIn wsX1_sits := goodIn_r _ [7, 8, 14, 15, 16, 17, 18] (by decide +kernel) (by decide +kernel)
set_option maxRecDepth 20000 in
theorem gX1_weightIn_X1_sits : GoodIn wsX1_weightIn (wsV RX1 32 RX1 yX1_sits wsX1_sits) := goodIn_app (goodIn_of _ (by decide +kernel)) ggX1_weightIn_X1_sits
set_option maxRecDepth 20000 in
theorem ggX1_weightIn_X1_weight : GoodIn wsX1_weightIn wsX1_weight := goodIn_r _ [12, 13, 8, 14, 15, 16, 17, 18] (by decide +kernel) (by decide +kernel)
set_option maxRecDepth 20000 in
theorem gX1_weightIn_X1_weight : GoodIn wsX1_weightIn (wsV RX1 36 RX1 yX1_weight wsX1_weight) := goodIn_app (goodIn_of _ (by decide +kernel)) ggX1_weightIn_X1_weight
theorem dX1_weightIn_0 : decode cX1_weightIn 0 = .ok (.iconst 0, 1) := by decide +kernel
theorem dX1_weightIn_1 : decode cX1_weightIn 1 = .ok (.istore_n 2, 1) := by decide +kernel
theorem dX1_weightIn_2 : decode cX1_weightIn 2 = .ok (.iconst 0, 1) := by decide +kernel
theorem dX1_weightIn_3 : decode cX1_weightIn 3 = .ok (.istore_n 3, 1) := by decide +kernel
theorem dX1_weightIn_4 : decode cX1_weightIn 4 = .ok (.iload_n 3, 1) := by decide +kernel
theorem dX1_weightIn_5 : decode cX1_weightIn 5 = .ok (.aload_n 0, 1) := by decide +kernel
theorem dX1_weightIn_6 : decode cX1_weightIn 6 = .ok (.getfield 24, 3) := by decide +kernel
theorem dX1_weightIn_9 : decode cX1_weightIn 9 = .ok (.if_icmp .ge 35, 3) := by decide +kernel
theorem dX1_weightIn_12 : decode cX1_weightIn 12 = .ok (.aload_n 0, 1) := by decide +kernel
theorem dX1_weightIn_13 : decode cX1_weightIn 13 = .ok (.iload_n 3, 1) := by decide +kernel
theorem dX1_weightIn_14 : decode cX1_weightIn 14 = .ok (.invokevirtual 32, 3) := by decide +kernel
theorem dX1_weightIn_17 : decode cX1_weightIn 17 = .ok (.ifCond .eq 21, 3) := by decide +kernel
theorem dX1_weightIn_20 : decode cX1_weightIn 20 = .ok (.aload_n 0, 1) := by decide +kernel
theorem dX1_weightIn_21 : decode cX1_weightIn 21 = .ok (.getfield 15, 3) := by decide +kernel
theorem dX1_weightIn_24 : decode cX1_weightIn 24 = .ok (.iload_n 3, 1) := by decide +kernel
theorem dX1_weightIn_25 : decode cX1_weightIn 25 = .ok (.iaload, 1) := by decide +kernel
theorem dX1_weightIn_26 : decode cX1_weightIn 26 = .ok (.iload_n 1, 1) := by decide +kernel
theorem dX1_weightIn_27 : decode cX1_weightIn 27 = .ok (.if_icmp .ne 11, 3) := by decide +kernel
theorem dX1_weightIn_30 : decode cX1_weightIn 30 = .ok (.iload_n 2, 1) := by decide +kernel
theorem dX1_weightIn_31 : decode cX1_weightIn 31 = .ok (.aload_n 0, 1) := by decide +kernel
theorem dX1_weightIn_32 : decode cX1_weightIn 32 = .ok (.iload_n 3, 1) := by decide +kernel
theorem dX1_weightIn_33 : decode cX1_weightIn 33 = .ok (.invokevirtual 36, 3) := by decide +kernel
theorem dX1_weightIn_36 : decode cX1_weightIn 36 = .ok (.iadd, 1) := by decide +kernel
theorem dX1_weightIn_37 : decode cX1_weightIn 37 = .ok (.istore_n 2, 1) := by decide +kernel
theorem dX1_weightIn_38 : decode cX1_weightIn 38 = .ok (.iinc 3 1, 3) := by decide +kernel
theorem dX1_weightIn_41 : decode cX1_weightIn 41 = .ok (.goto (-37), 3) := by decide +kernel
theorem dX1_weightIn_44 : decode cX1_weightIn 44 = .ok (.iload_n 2, 1) := by decide +kernel
theorem dX1_weightIn_45 : decode cX1_weightIn 45 = .ok (.ireturn, 1) := by decide +kernel
set_option maxRecDepth 20000 in
theorem ggX1_strangerCells_X1_sits : GoodIn wsX1_strangerCells wsX1_sits := goodIn_r _ [8, 9, 13, 14, 15, 16, 17] (by decide +kernel) (by decide +kernel)
set_option maxRecDepth 20000 in
theorem gX1_strangerCells_X1_sits : GoodIn wsX1_strangerCells (wsV RX1 32 RX1 yX1_sits wsX1_sits) := goodIn_app (goodIn_of _ (by decide +kernel)) ggX1_strangerCells_X1_sits
set_option maxRecDepth 20000 in
theorem ggX1_strangerCells_X9_bit : GoodIn wsX1_strangerCells wsX9_bit := goodIn_r _ [12] (by decide +kernel) (by decide +kernel)
set_option maxRecDepth 20000 in
theorem gX1_strangerCells_X9_bit_n40 : GoodIn wsX1_strangerCells (wsX9_bit) := ggX1_strangerCells_X9_bit
theorem dX1_strangerCells_0 : decode cX1_strangerCells 0 = .ok (.lconst 0, 1) := by decide +kernel
theorem dX1_strangerCells_1 : decode cX1_strangerCells 1 = .ok (.lstore_n 1, 1) := by decide +kernel
theorem dX1_strangerCells_2 : decode cX1_strangerCells 2 = .ok (.iconst 0, 1) := by decide +kernel
theorem dX1_strangerCells_3 : decode cX1_strangerCells 3 = .ok (.istore_n 3, 1) := by decide +kernel
theorem dX1_strangerCells_4 : decode cX1_strangerCells 4 = .ok (.iload_n 3, 1) := by decide +kernel
theorem dX1_strangerCells_5 : decode cX1_strangerCells 5 = .ok (.aload_n 0, 1) := by decide +kernel
theorem dX1_strangerCells_6 : decode cX1_strangerCells 6 = .ok (.getfield 24, 3) := by decide +kernel
theorem dX1_strangerCells_9 : decode cX1_strangerCells 9 = .ok (.if_icmp .ge 39, 3) := by decide +kernel
theorem dX1_strangerCells_12 : decode cX1_strangerCells 12 = .ok (.aload_n 0, 1) := by decide +kernel
theorem dX1_strangerCells_13 : decode cX1_strangerCells 13 = .ok (.iload_n 3, 1) := by decide +kernel
theorem dX1_strangerCells_14 : decode cX1_strangerCells 14 = .ok (.invokevirtual 32, 3) := by decide +kernel
theorem dX1_strangerCells_17 : decode cX1_strangerCells 17 = .ok (.ifCond .eq 25, 3) := by decide +kernel
theorem dX1_strangerCells_20 : decode cX1_strangerCells 20 = .ok (.aload_n 0, 1) := by decide +kernel
theorem dX1_strangerCells_21 : decode cX1_strangerCells 21 = .ok (.getfield 9, 3) := by decide +kernel
theorem dX1_strangerCells_24 : decode cX1_strangerCells 24 = .ok (.iload_n 3, 1) := by decide +kernel
theorem dX1_strangerCells_25 : decode cX1_strangerCells 25 = .ok (.iaload, 1) := by decide +kernel
theorem dX1_strangerCells_26 : decode cX1_strangerCells 26 = .ok (.iconst 3, 1) := by decide +kernel
theorem dX1_strangerCells_27 : decode cX1_strangerCells 27 = .ok (.if_icmp .ne 15, 3) := by decide +kernel
theorem dX1_strangerCells_30 : decode cX1_strangerCells 30 = .ok (.lload_n 1, 1) := by decide +kernel
theorem dX1_strangerCells_31 : decode cX1_strangerCells 31 = .ok (.aload_n 0, 1) := by decide +kernel
theorem dX1_strangerCells_32 : decode cX1_strangerCells 32 = .ok (.getfield 15, 3) := by decide +kernel
theorem dX1_strangerCells_35 : decode cX1_strangerCells 35 = .ok (.iload_n 3, 1) := by decide +kernel
theorem dX1_strangerCells_36 : decode cX1_strangerCells 36 = .ok (.iaload, 1) := by decide +kernel
theorem dX1_strangerCells_37 : decode cX1_strangerCells 37 = .ok (.invokestatic 40, 3) := by decide +kernel
theorem dX1_strangerCells_40 : decode cX1_strangerCells 40 = .ok (.lor, 1) := by decide +kernel
theorem dX1_strangerCells_41 : decode cX1_strangerCells 41 = .ok (.lstore_n 1, 1) := by decide +kernel
theorem dX1_strangerCells_42 : decode cX1_strangerCells 42 = .ok (.iinc 3 1, 3) := by decide +kernel
theorem dX1_strangerCells_45 : decode cX1_strangerCells 45 = .ok (.goto (-41), 3) := by decide +kernel
theorem dX1_strangerCells_48 : decode cX1_strangerCells 48 = .ok (.lload_n 1, 1) := by decide +kernel
theorem dX1_strangerCells_49 : decode cX1_strangerCells 49 = .ok (.lreturn, 1) := by decide +kernel
set_option maxRecDepth 20000 in
theorem ggX1_ache_X1_sits : GoodIn wsX1_ache wsX1_sits := goodIn_r _ [8, 9, 13, 14, 15, 16, 17] (by decide +kernel) (by decide +kernel)
set_option maxRecDepth 20000 in
theorem gX1_ache_X1_sits : GoodIn wsX1_ache (wsV RX1 32 RX1 yX1_sits wsX1_sits) := goodIn_app (goodIn_of _ (by decide +kernel)) ggX1_ache_X1_sits
set_option maxRecDepth 20000 in
theorem ggX1_ache_X9_bit : GoodIn wsX1_ache wsX9_bit := goodIn_r _ [12] (by decide +kernel) (by decide +kernel)
set_option maxRecDepth 20000 in
theorem gX1_ache_X9_bit_n40 : GoodIn wsX1_ache (wsX9_bit) := ggX1_ache_X9_bit
theorem dX1_ache_0 : decode cX1_ache 0 = .ok (.iconst 0, 1) := by decide +kernel
theorem dX1_ache_1 : decode cX1_ache 1 = .ok (.istore_n 3, 1) := by decide +kernel
theorem dX1_ache_2 : decode cX1_ache 2 = .ok (.iload_n 3, 1) := by decide +kernel
theorem dX1_ache_3 : decode cX1_ache 3 = .ok (.aload_n 0, 1) := by decide +kernel
theorem dX1_ache_4 : decode cX1_ache 4 = .ok (.getfield 24, 3) := by decide +kernel
theorem dX1_ache_7 : decode cX1_ache 7 = .ok (.if_icmp .ge 43, 3) := by decide +kernel
theorem dX1_ache_10 : decode cX1_ache 10 = .ok (.aload_n 0, 1) := by decide +kernel
theorem dX1_ache_11 : decode cX1_ache 11 = .ok (.iload_n 3, 1) := by decide +kernel
theorem dX1_ache_12 : decode cX1_ache 12 = .ok (.invokevirtual 32, 3) := by decide +kernel
theorem dX1_ache_15 : decode cX1_ache 15 = .ok (.ifCond .eq 29, 3) := by decide +kernel
theorem dX1_ache_18 : decode cX1_ache 18 = .ok (.lload_n 1, 1) := by decide +kernel
theorem dX1_ache_19 : decode cX1_ache 19 = .ok (.aload_n 0, 1) := by decide +kernel
theorem dX1_ache_20 : decode cX1_ache 20 = .ok (.getfield 15, 3) := by decide +kernel
theorem dX1_ache_23 : decode cX1_ache 23 = .ok (.iload_n 3, 1) := by decide +kernel
theorem dX1_ache_24 : decode cX1_ache 24 = .ok (.iaload, 1) := by decide +kernel
theorem dX1_ache_25 : decode cX1_ache 25 = .ok (.invokestatic 40, 3) := by decide +kernel
theorem dX1_ache_28 : decode cX1_ache 28 = .ok (.land, 1) := by decide +kernel
theorem dX1_ache_29 : decode cX1_ache 29 = .ok (.lconst 0, 1) := by decide +kernel
theorem dX1_ache_30 : decode cX1_ache 30 = .ok (.lcmp, 1) := by decide +kernel
theorem dX1_ache_31 : decode cX1_ache 31 = .ok (.ifCond .ne 13, 3) := by decide +kernel
theorem dX1_ache_34 : decode cX1_ache 34 = .ok (.aload_n 0, 1) := by decide +kernel
theorem dX1_ache_35 : decode cX1_ache 35 = .ok (.getfield 21, 3) := by decide +kernel
theorem dX1_ache_38 : decode cX1_ache 38 = .ok (.iload_n 3, 1) := by decide +kernel
theorem dX1_ache_39 : decode cX1_ache 39 = .ok (.dup2, 1) := by decide +kernel
theorem dX1_ache_40 : decode cX1_ache 40 = .ok (.iaload, 1) := by decide +kernel
theorem dX1_ache_41 : decode cX1_ache 41 = .ok (.iconst 1, 1) := by decide +kernel
theorem dX1_ache_42 : decode cX1_ache 42 = .ok (.iadd, 1) := by decide +kernel
theorem dX1_ache_43 : decode cX1_ache 43 = .ok (.iastore, 1) := by decide +kernel
theorem dX1_ache_44 : decode cX1_ache 44 = .ok (.iinc 3 1, 3) := by decide +kernel
theorem dX1_ache_47 : decode cX1_ache 47 = .ok (.goto (-45), 3) := by decide +kernel
theorem dX1_ache_50 : decode cX1_ache 50 = .ok (.return_, 1) := by decide +kernel
theorem dX1_aching_0 : decode cX1_aching 0 = .ok (.iconst 0, 1) := by decide +kernel
theorem dX1_aching_1 : decode cX1_aching 1 = .ok (.istore_n 1, 1) := by decide +kernel
theorem dX1_aching_2 : decode cX1_aching 2 = .ok (.iconst 0, 1) := by decide +kernel
theorem dX1_aching_3 : decode cX1_aching 3 = .ok (.istore_n 2, 1) := by decide +kernel
theorem dX1_aching_4 : decode cX1_aching 4 = .ok (.iload_n 2, 1) := by decide +kernel
theorem dX1_aching_5 : decode cX1_aching 5 = .ok (.aload_n 0, 1) := by decide +kernel
theorem dX1_aching_6 : decode cX1_aching 6 = .ok (.getfield 24, 3) := by decide +kernel
theorem dX1_aching_9 : decode cX1_aching 9 = .ok (.if_icmp .ge 24, 3) := by decide +kernel
theorem dX1_aching_12 : decode cX1_aching 12 = .ok (.aload_n 0, 1) := by decide +kernel
theorem dX1_aching_13 : decode cX1_aching 13 = .ok (.getfield 21, 3) := by decide +kernel
theorem dX1_aching_16 : decode cX1_aching 16 = .ok (.iload_n 2, 1) := by decide +kernel
theorem dX1_aching_17 : decode cX1_aching 17 = .ok (.iaload, 1) := by decide +kernel
theorem dX1_aching_18 : decode cX1_aching 18 = .ok (.ifCond .le 9, 3) := by decide +kernel
theorem dX1_aching_21 : decode cX1_aching 21 = .ok (.iload_n 1, 1) := by decide +kernel
theorem dX1_aching_22 : decode cX1_aching 22 = .ok (.iconst 1, 1) := by decide +kernel
theorem dX1_aching_23 : decode cX1_aching 23 = .ok (.iload_n 2, 1) := by decide +kernel
theorem dX1_aching_24 : decode cX1_aching 24 = .ok (.ishl, 1) := by decide +kernel
theorem dX1_aching_25 : decode cX1_aching 25 = .ok (.ior, 1) := by decide +kernel
theorem dX1_aching_26 : decode cX1_aching 26 = .ok (.istore_n 1, 1) := by decide +kernel
theorem dX1_aching_27 : decode cX1_aching 27 = .ok (.iinc 2 1, 3) := by decide +kernel
theorem dX1_aching_30 : decode cX1_aching 30 = .ok (.goto (-26), 3) := by decide +kernel
theorem dX1_aching_33 : decode cX1_aching 33 = .ok (.iload_n 1, 1) := by decide +kernel
theorem dX1_aching_34 : decode cX1_aching 34 = .ok (.ireturn, 1) := by decide +kernel
theorem dX2_init_0 : decode cX2_init 0 = .ok (.aload_n 0, 1) := by decide +kernel
theorem dX2_init_1 : decode cX2_init 1 = .ok (.invokespecial 3, 3) := by decide +kernel
theorem dX2_init_4 : decode cX2_init 4 = .ok (.aload_n 0, 1) := by decide +kernel
theorem dX2_init_5 : decode cX2_init 5 = .ok (.sipush 1296, 3) := by decide +kernel
theorem dX2_init_8 : decode cX2_init 8 = .ok (.newarray .int, 2) := by decide +kernel
theorem dX2_init_10 : decode cX2_init 10 = .ok (.putfield 9, 3) := by decide +kernel
theorem dX2_init_13 : decode cX2_init 13 = .ok (.aload_n 0, 1) := by decide +kernel
theorem dX2_init_14 : decode cX2_init 14 = .ok (.bipush 36, 2) := by decide +kernel
theorem dX2_init_16 : decode cX2_init 16 = .ok (.newarray .int, 2) := by decide +kernel
theorem dX2_init_18 : decode cX2_init 18 = .ok (.putfield 15, 3) := by decide +kernel
theorem dX2_init_21 : decode cX2_init 21 = .ok (.aload_n 0, 1) := by decide +kernel
theorem dX2_init_22 : decode cX2_init 22 = .ok (.bipush 36, 2) := by decide +kernel
theorem dX2_init_24 : decode cX2_init 24 = .ok (.newarray .int, 2) := by decide +kernel
theorem dX2_init_26 : decode cX2_init 26 = .ok (.putfield 18, 3) := by decide +kernel
theorem dX2_init_29 : decode cX2_init 29 = .ok (.return_, 1) := by decide +kernel
theorem dX2_weigh_0 : decode cX2_weigh 0 = .ok (.iconst 0, 1) := by decide +kernel
theorem dX2_weigh_1 : decode cX2_weigh 1 = .ok (.istore_n 1, 1) := by decide +kernel
theorem dX2_weigh_2 : decode cX2_weigh 2 = .ok (.iload_n 1, 1) := by decide +kernel
theorem dX2_weigh_3 : decode cX2_weigh 3 = .ok (.bipush 36, 2) := by decide +kernel
theorem dX2_weigh_5 : decode cX2_weigh 5 = .ok (.if_icmp .ge 24, 3) := by decide +kernel
theorem dX2_weigh_8 : decode cX2_weigh 8 = .ok (.aload_n 0, 1) := by decide +kernel
theorem dX2_weigh_9 : decode cX2_weigh 9 = .ok (.getfield 15, 3) := by decide +kernel
theorem dX2_weigh_12 : decode cX2_weigh 12 = .ok (.iload_n 1, 1) := by decide +kernel
theorem dX2_weigh_13 : decode cX2_weigh 13 = .ok (.bipush 99, 2) := by decide +kernel
theorem dX2_weigh_15 : decode cX2_weigh 15 = .ok (.iastore, 1) := by decide +kernel
theorem dX2_weigh_16 : decode cX2_weigh 16 = .ok (.aload_n 0, 1) := by decide +kernel
theorem dX2_weigh_17 : decode cX2_weigh 17 = .ok (.getfield 18, 3) := by decide +kernel
theorem dX2_weigh_20 : decode cX2_weigh 20 = .ok (.iload_n 1, 1) := by decide +kernel
theorem dX2_weigh_21 : decode cX2_weigh 21 = .ok (.iconst 0, 1) := by decide +kernel
theorem dX2_weigh_22 : decode cX2_weigh 22 = .ok (.iastore, 1) := by decide +kernel
theorem dX2_weigh_23 : decode cX2_weigh 23 = .ok (.iinc 1 1, 3) := by decide +kernel
theorem dX2_weigh_26 : decode cX2_weigh 26 = .ok (.goto (-24), 3) := by decide +kernel
theorem dX2_weigh_29 : decode cX2_weigh 29 = .ok (.iconst 0, 1) := by decide +kernel
theorem dX2_weigh_30 : decode cX2_weigh 30 = .ok (.istore_n 1, 1) := by decide +kernel
theorem dX2_weigh_31 : decode cX2_weigh 31 = .ok (.iload_n 1, 1) := by decide +kernel
theorem dX2_weigh_32 : decode cX2_weigh 32 = .ok (.bipush 36, 2) := by decide +kernel
theorem dX2_weigh_34 : decode cX2_weigh 34 = .ok (.if_icmp .ge 67, 3) := by decide +kernel
theorem dX2_weigh_37 : decode cX2_weigh 37 = .ok (.iconst 0, 1) := by decide +kernel
theorem dX2_weigh_38 : decode cX2_weigh 38 = .ok (.istore_n 2, 1) := by decide +kernel
theorem dX2_weigh_39 : decode cX2_weigh 39 = .ok (.iload_n 2, 1) := by decide +kernel
theorem dX2_weigh_40 : decode cX2_weigh 40 = .ok (.bipush 36, 2) := by decide +kernel
theorem dX2_weigh_42 : decode cX2_weigh 42 = .ok (.if_icmp .ge 53, 3) := by decide +kernel
theorem dX2_weigh_45 : decode cX2_weigh 45 = .ok (.aload_n 0, 1) := by decide +kernel
theorem dX2_weigh_46 : decode cX2_weigh 46 = .ok (.getfield 9, 3) := by decide +kernel
theorem dX2_weigh_49 : decode cX2_weigh 49 = .ok (.iload_n 1, 1) := by decide +kernel
theorem dX2_weigh_50 : decode cX2_weigh 50 = .ok (.bipush 36, 2) := by decide +kernel
theorem dX2_weigh_52 : decode cX2_weigh 52 = .ok (.imul, 1) := by decide +kernel
theorem dX2_weigh_53 : decode cX2_weigh 53 = .ok (.iload_n 2, 1) := by decide +kernel
theorem dX2_weigh_54 : decode cX2_weigh 54 = .ok (.iadd, 1) := by decide +kernel
theorem dX2_weigh_55 : decode cX2_weigh 55 = .ok (.iaload, 1) := by decide +kernel
theorem dX2_weigh_56 : decode cX2_weigh 56 = .ok (.istore_n 3, 1) := by decide +kernel
theorem dX2_weigh_57 : decode cX2_weigh 57 = .ok (.aload_n 0, 1) := by decide +kernel
theorem dX2_weigh_58 : decode cX2_weigh 58 = .ok (.getfield 15, 3) := by decide +kernel
theorem dX2_weigh_61 : decode cX2_weigh 61 = .ok (.iload_n 2, 1) := by decide +kernel
theorem dX2_weigh_62 : decode cX2_weigh 62 = .ok (.aload_n 0, 1) := by decide +kernel
theorem dX2_weigh_63 : decode cX2_weigh 63 = .ok (.getfield 15, 3) := by decide +kernel
theorem dX2_weigh_66 : decode cX2_weigh 66 = .ok (.iload_n 2, 1) := by decide +kernel
theorem dX2_weigh_67 : decode cX2_weigh 67 = .ok (.iaload, 1) := by decide +kernel
theorem dX2_weigh_68 : decode cX2_weigh 68 = .ok (.iload_n 3, 1) := by decide +kernel
theorem dX2_weigh_69 : decode cX2_weigh 69 = .ok (.invokestatic 21, 3) := by decide +kernel
theorem dX2_weigh_72 : decode cX2_weigh 72 = .ok (.iastore, 1) := by decide +kernel
theorem dX2_weigh_73 : decode cX2_weigh 73 = .ok (.aload_n 0, 1) := by decide +kernel
theorem dX2_weigh_74 : decode cX2_weigh 74 = .ok (.getfield 18, 3) := by decide +kernel
theorem dX2_weigh_77 : decode cX2_weigh 77 = .ok (.iload_n 1, 1) := by decide +kernel
theorem dX2_weigh_78 : decode cX2_weigh 78 = .ok (.aload_n 0, 1) := by decide +kernel
theorem dX2_weigh_79 : decode cX2_weigh 79 = .ok (.getfield 18, 3) := by decide +kernel
theorem dX2_weigh_82 : decode cX2_weigh 82 = .ok (.iload_n 1, 1) := by decide +kernel
theorem dX2_weigh_83 : decode cX2_weigh 83 = .ok (.iaload, 1) := by decide +kernel
theorem dX2_weigh_84 : decode cX2_weigh 84 = .ok (.iload_n 3, 1) := by decide +kernel
theorem dX2_weigh_85 : decode cX2_weigh 85 = .ok (.invokestatic 27, 3) := by decide +kernel
theorem dX2_weigh_88 : decode cX2_weigh 88 = .ok (.iastore, 1) := by decide +kernel
theorem dX2_weigh_89 : decode cX2_weigh 89 = .ok (.iinc 2 1, 3) := by decide +kernel
theorem dX2_weigh_92 : decode cX2_weigh 92 = .ok (.goto (-53), 3) := by decide +kernel
theorem dX2_weigh_95 : decode cX2_weigh 95 = .ok (.iinc 1 1, 3) := by decide +kernel
theorem dX2_weigh_98 : decode cX2_weigh 98 = .ok (.goto (-67), 3) := by decide +kernel
theorem dX2_weigh_101 : decode cX2_weigh 101 = .ok (.return_, 1) := by decide +kernel
theorem dX2_rest_0 : decode cX2_rest 0 = .ok (.aload_n 0, 1) := by decide +kernel
theorem dX2_rest_1 : decode cX2_rest 1 = .ok (.getfield 9, 3) := by decide +kernel
theorem dX2_rest_4 : decode cX2_rest 4 = .ok (.iload_n 1, 1) := by decide +kernel
theorem dX2_rest_5 : decode cX2_rest 5 = .ok (.bipush 36, 2) := by decide +kernel
theorem dX2_rest_7 : decode cX2_rest 7 = .ok (.imul, 1) := by decide +kernel
theorem dX2_rest_8 : decode cX2_rest 8 = .ok (.iload_n 2, 1) := by decide +kernel
theorem dX2_rest_9 : decode cX2_rest 9 = .ok (.iadd, 1) := by decide +kernel
theorem dX2_rest_10 : decode cX2_rest 10 = .ok (.iaload, 1) := by decide +kernel
theorem dX2_rest_11 : decode cX2_rest 11 = .ok (.istore_n 3, 1) := by decide +kernel
theorem dX2_rest_12 : decode cX2_rest 12 = .ok (.iload_n 3, 1) := by decide +kernel
theorem dX2_rest_13 : decode cX2_rest 13 = .ok (.aload_n 0, 1) := by decide +kernel
theorem dX2_rest_14 : decode cX2_rest 14 = .ok (.getfield 15, 3) := by decide +kernel
theorem dX2_rest_17 : decode cX2_rest 17 = .ok (.iload_n 2, 1) := by decide +kernel
theorem dX2_rest_18 : decode cX2_rest 18 = .ok (.iaload, 1) := by decide +kernel
theorem dX2_rest_19 : decode cX2_rest 19 = .ok (.if_icmp .ne 17, 3) := by decide +kernel
theorem dX2_rest_22 : decode cX2_rest 22 = .ok (.iload_n 3, 1) := by decide +kernel
theorem dX2_rest_23 : decode cX2_rest 23 = .ok (.aload_n 0, 1) := by decide +kernel
theorem dX2_rest_24 : decode cX2_rest 24 = .ok (.getfield 18, 3) := by decide +kernel
theorem dX2_rest_27 : decode cX2_rest 27 = .ok (.iload_n 1, 1) := by decide +kernel
theorem dX2_rest_28 : decode cX2_rest 28 = .ok (.iaload, 1) := by decide +kernel
theorem dX2_rest_29 : decode cX2_rest 29 = .ok (.if_icmp .ne 7, 3) := by decide +kernel
theorem dX2_rest_32 : decode cX2_rest 32 = .ok (.iconst 1, 1) := by decide +kernel
theorem dX2_rest_33 : decode cX2_rest 33 = .ok (.goto 4, 3) := by decide +kernel
theorem dX2_rest_36 : decode cX2_rest 36 = .ok (.iconst 0, 1) := by decide +kernel
theorem dX2_rest_37 : decode cX2_rest 37 = .ok (.ireturn, 1) := by decide +kernel
set_option maxRecDepth 20000 in
theorem ggX2_rests_X2_rest : GoodIn wsX2_rests wsX2_rest := goodIn_r _ [5, 6, 7, 8, 9, 10, 11] (by decide +kernel) (by decide +kernel)
set_option maxRecDepth 20000 in
theorem gX2_rests_X2_rest : GoodIn wsX2_rests (wsV RX2 30 RX2 yX2_rest wsX2_rest) := goodIn_app (goodIn_of _ (by decide +kernel)) ggX2_rests_X2_rest
theorem dX2_rests_0 : decode cX2_rests 0 = .ok (.iconst 0, 1) := by decide +kernel
theorem dX2_rests_1 : decode cX2_rests 1 = .ok (.istore_n 1, 1) := by decide +kernel
theorem dX2_rests_2 : decode cX2_rests 2 = .ok (.iconst 0, 1) := by decide +kernel
theorem dX2_rests_3 : decode cX2_rests 3 = .ok (.istore_n 2, 1) := by decide +kernel
theorem dX2_rests_4 : decode cX2_rests 4 = .ok (.iload_n 2, 1) := by decide +kernel
theorem dX2_rests_5 : decode cX2_rests 5 = .ok (.bipush 36, 2) := by decide +kernel
theorem dX2_rests_7 : decode cX2_rests 7 = .ok (.if_icmp .ge 35, 3) := by decide +kernel
theorem dX2_rests_10 : decode cX2_rests 10 = .ok (.iconst 0, 1) := by decide +kernel
theorem dX2_rests_11 : decode cX2_rests 11 = .ok (.istore_n 3, 1) := by decide +kernel
theorem dX2_rests_12 : decode cX2_rests 12 = .ok (.iload_n 3, 1) := by decide +kernel
theorem dX2_rests_13 : decode cX2_rests 13 = .ok (.bipush 36, 2) := by decide +kernel
theorem dX2_rests_15 : decode cX2_rests 15 = .ok (.if_icmp .ge 21, 3) := by decide +kernel
theorem dX2_rests_18 : decode cX2_rests 18 = .ok (.aload_n 0, 1) := by decide +kernel
theorem dX2_rests_19 : decode cX2_rests 19 = .ok (.iload_n 2, 1) := by decide +kernel
theorem dX2_rests_20 : decode cX2_rests 20 = .ok (.iload_n 3, 1) := by decide +kernel
theorem dX2_rests_21 : decode cX2_rests 21 = .ok (.invokevirtual 30, 3) := by decide +kernel
theorem dX2_rests_24 : decode cX2_rests 24 = .ok (.ifCond .eq 6, 3) := by decide +kernel
theorem dX2_rests_27 : decode cX2_rests 27 = .ok (.iinc 1 1, 3) := by decide +kernel
theorem dX2_rests_30 : decode cX2_rests 30 = .ok (.iinc 3 1, 3) := by decide +kernel
theorem dX2_rests_33 : decode cX2_rests 33 = .ok (.goto (-21), 3) := by decide +kernel
theorem dX2_rests_36 : decode cX2_rests 36 = .ok (.iinc 2 1, 3) := by decide +kernel
theorem dX2_rests_39 : decode cX2_rests 39 = .ok (.goto (-35), 3) := by decide +kernel
theorem dX2_rests_42 : decode cX2_rests 42 = .ok (.iload_n 1, 1) := by decide +kernel
theorem dX2_rests_43 : decode cX2_rests 43 = .ok (.ireturn, 1) := by decide +kernel
set_option maxRecDepth 20000 in
theorem ggX2_firstRest_X2_rest : GoodIn wsX2_firstRest wsX2_rest := goodIn_r _ [5, 6, 7, 8, 9, 10, 11] (by decide +kernel) (by decide +kernel)
set_option maxRecDepth 20000 in
theorem gX2_firstRest_X2_rest : GoodIn wsX2_firstRest (wsV RX2 30 RX2 yX2_rest wsX2_rest) := goodIn_app (goodIn_of _ (by decide +kernel)) ggX2_firstRest_X2_rest
theorem dX2_firstRest_0 : decode cX2_firstRest 0 = .ok (.iconst 0, 1) := by decide +kernel
theorem dX2_firstRest_1 : decode cX2_firstRest 1 = .ok (.istore_n 1, 1) := by decide +kernel
theorem dX2_firstRest_2 : decode cX2_firstRest 2 = .ok (.iload_n 1, 1) := by decide +kernel
theorem dX2_firstRest_3 : decode cX2_firstRest 3 = .ok (.bipush 36, 2) := by decide +kernel
theorem dX2_firstRest_5 : decode cX2_firstRest 5 = .ok (.if_icmp .ge 39, 3) := by decide +kernel
theorem dX2_firstRest_8 : decode cX2_firstRest 8 = .ok (.iconst 0, 1) := by decide +kernel
theorem dX2_firstRest_9 : decode cX2_firstRest 9 = .ok (.istore_n 2, 1) := by decide +kernel
theorem dX2_firstRest_10 : decode cX2_firstRest 10 = .ok (.iload_n 2, 1) := by decide +kernel
theorem dX2_firstRest_11 : decode cX2_firstRest 11 = .ok (.bipush 36, 2) := by decide +kernel
theorem dX2_firstRest_13 : decode cX2_firstRest 13 = .ok (.if_icmp .ge 25, 3) := by decide +kernel
theorem dX2_firstRest_16 : decode cX2_firstRest 16 = .ok (.aload_n 0, 1) := by decide +kernel
theorem dX2_firstRest_17 : decode cX2_firstRest 17 = .ok (.iload_n 1, 1) := by decide +kernel
theorem dX2_firstRest_18 : decode cX2_firstRest 18 = .ok (.iload_n 2, 1) := by decide +kernel
theorem dX2_firstRest_19 : decode cX2_firstRest 19 = .ok (.invokevirtual 30, 3) := by decide +kernel
theorem dX2_firstRest_22 : decode cX2_firstRest 22 = .ok (.ifCond .eq 10, 3) := by decide +kernel
theorem dX2_firstRest_25 : decode cX2_firstRest 25 = .ok (.bipush 100, 2) := by decide +kernel
theorem dX2_firstRest_27 : decode cX2_firstRest 27 = .ok (.iload_n 1, 1) := by decide +kernel
theorem dX2_firstRest_28 : decode cX2_firstRest 28 = .ok (.imul, 1) := by decide +kernel
theorem dX2_firstRest_29 : decode cX2_firstRest 29 = .ok (.iload_n 2, 1) := by decide +kernel
theorem dX2_firstRest_30 : decode cX2_firstRest 30 = .ok (.iadd, 1) := by decide +kernel
theorem dX2_firstRest_31 : decode cX2_firstRest 31 = .ok (.ireturn, 1) := by decide +kernel
theorem dX2_firstRest_32 : decode cX2_firstRest 32 = .ok (.iinc 2 1, 3) := by decide +kernel
theorem dX2_firstRest_35 : decode cX2_firstRest 35 = .ok (.goto (-25), 3) := by decide +kernel
theorem dX2_firstRest_38 : decode cX2_firstRest 38 = .ok (.iinc 1 1, 3) := by decide +kernel
theorem dX2_firstRest_41 : decode cX2_firstRest 41 = .ok (.goto (-39), 3) := by decide +kernel
theorem dX2_firstRest_44 : decode cX2_firstRest 44 = .ok (.bipush (-4), 2) := by decide +kernel
theorem dX2_firstRest_46 : decode cX2_firstRest 46 = .ok (.ireturn, 1) := by decide +kernel
set_option maxRecDepth 20000 in
theorem ggX3_init_X4_init : GoodIn wsX3_init wsX4_init := goodIn_r _ [19, 20, 2, 3, 21, 22, 35, 36, 37, 38] (by decide +kernel) (by decide +kernel)
set_option maxRecDepth 20000 in
theorem gX3_init_X4_init_n9 : GoodIn wsX3_init (wsX4_init) := ggX3_init_X4_init
set_option maxRecDepth 20000 in
theorem ggX3_init_X1_init : GoodIn wsX3_init wsX1_init := goodIn_r _ [24, 25, 2, 3, 21, 26, 27, 28, 29, 46, 47, 48, 49, 50] (by decide +kernel) (by decide +kernel)
set_option maxRecDepth 20000 in
theorem gX3_init_X1_init_n18 : GoodIn wsX3_init (wsX1_init) := ggX3_init_X1_init
set_option maxRecDepth 20000 in
theorem ggX3_init_X5_init : GoodIn wsX3_init wsX5_init := goodIn_r _ [31, 32, 2, 3, 21, 33, 34, 51, 52, 53] (by decide +kernel) (by decide +kernel)
set_option maxRecDepth 20000 in
theorem gX3_init_X5_init_n25 : GoodIn wsX3_init (wsX5_init) := ggX3_init_X5_init
theorem dX3_init_0 : decode cX3_init 0 = .ok (.aload_n 0, 1) := by decide +kernel
theorem dX3_init_1 : decode cX3_init 1 = .ok (.invokespecial 1, 3) := by decide +kernel
theorem dX3_init_4 : decode cX3_init 4 = .ok (.aload_n 0, 1) := by decide +kernel
theorem dX3_init_5 : decode cX3_init 5 = .ok (.new 7, 3) := by decide +kernel
theorem dX3_init_8 : decode cX3_init 8 = .ok (.dup, 1) := by decide +kernel
theorem dX3_init_9 : decode cX3_init 9 = .ok (.invokespecial 9, 3) := by decide +kernel
theorem dX3_init_12 : decode cX3_init 12 = .ok (.putfield 10, 3) := by decide +kernel
theorem dX3_init_15 : decode cX3_init 15 = .ok (.aload_n 0, 1) := by decide +kernel
theorem dX3_init_16 : decode cX3_init 16 = .ok (.new 16, 3) := by decide +kernel
theorem dX3_init_19 : decode cX3_init 19 = .ok (.dup, 1) := by decide +kernel
theorem dX3_init_20 : decode cX3_init 20 = .ok (.invokespecial 18, 3) := by decide +kernel
theorem dX3_init_23 : decode cX3_init 23 = .ok (.putfield 19, 3) := by decide +kernel
theorem dX3_init_26 : decode cX3_init 26 = .ok (.aload_n 0, 1) := by decide +kernel
theorem dX3_init_27 : decode cX3_init 27 = .ok (.new 23, 3) := by decide +kernel
theorem dX3_init_30 : decode cX3_init 30 = .ok (.dup, 1) := by decide +kernel
theorem dX3_init_31 : decode cX3_init 31 = .ok (.invokespecial 25, 3) := by decide +kernel
theorem dX3_init_34 : decode cX3_init 34 = .ok (.putfield 26, 3) := by decide +kernel
theorem dX3_init_37 : decode cX3_init 37 = .ok (.aload_n 0, 1) := by decide +kernel
theorem dX3_init_38 : decode cX3_init 38 = .ok (.ldc2_w 30, 3) := by decide +kernel
theorem dX3_init_41 : decode cX3_init 41 = .ok (.putfield 32, 3) := by decide +kernel
theorem dX3_init_44 : decode cX3_init 44 = .ok (.return_, 1) := by decide +kernel
set_option maxRecDepth 20000 in
theorem ggX3_begin_X1_become : GoodIn wsX3_begin wsX1_become := goodIn_r _ [7, 8, 9, 10, 11, 12, 23, 24, 25, 26, 27] (by decide +kernel) (by decide +kernel)
set_option maxRecDepth 20000 in
theorem gX3_begin_X1_become : GoodIn wsX3_begin (wsV RX3 39 RX1 yX1_become wsX1_become) := goodIn_app (goodIn_of _ (by decide +kernel)) ggX3_begin_X1_become
theorem dX3_begin_0 : decode cX3_begin 0 = .ok (.aload_n 0, 1) := by decide +kernel
theorem dX3_begin_1 : decode cX3_begin 1 = .ok (.getfield 19, 3) := by decide +kernel
theorem dX3_begin_4 : decode cX3_begin 4 = .ok (.aload_n 1, 1) := by decide +kernel
theorem dX3_begin_5 : decode cX3_begin 5 = .ok (.getfield 36, 3) := by decide +kernel
theorem dX3_begin_8 : decode cX3_begin 8 = .ok (.invokevirtual 39, 3) := by decide +kernel
theorem dX3_begin_11 : decode cX3_begin 11 = .ok (.return_, 1) := by decide +kernel
