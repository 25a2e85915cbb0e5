theorem dX9_init_0 : decode cX9_init 0 = .ok (.aload_n 0, 1) := by decide +kernel
theorem dX9_init_1 : decode cX9_init 1 = .ok (.invokespecial 3, 3) := by decide +kernel
theorem dX9_init_4 : decode cX9_init 4 = .ok (.aload_n 0, 1) := by decide +kernel
theorem dX9_init_5 : decode cX9_init 5 = .ok (.new 9, 3) := by decide +kernel
theorem dX9_init_8 : decode cX9_init 8 = .ok (.dup, 1) := by decide +kernel
theorem dX9_init_9 : decode cX9_init 9 = .ok (.invokespecial 11, 3) := by decide +kernel
theorem dX9_init_12 : decode cX9_init 12 = .ok (.putfield 12, 3) := by decide +kernel
theorem dX9_init_15 : decode cX9_init 15 = .ok (.aload_n 0, 1) := by decide +kernel
theorem dX9_init_16 : decode cX9_init 16 = .ok (.new 16, 3) := by decide +kernel
theorem dX9_init_19 : decode cX9_init 19 = .ok (.dup, 1) := by decide +kernel
theorem dX9_init_20 : decode cX9_init 20 = .ok (.invokespecial 18, 3) := by decide +kernel
theorem dX9_init_23 : decode cX9_init 23 = .ok (.putfield 19, 3) := by decide +kernel
theorem dX9_init_26 : decode cX9_init 26 = .ok (.aload_n 0, 1) := by decide +kernel
theorem dX9_init_27 : decode cX9_init 27 = .ok (.new 16, 3) := by decide +kernel
theorem dX9_init_30 : decode cX9_init 30 = .ok (.dup, 1) := by decide +kernel
theorem dX9_init_31 : decode cX9_init 31 = .ok (.invokespecial 18, 3) := by decide +kernel
theorem dX9_init_34 : decode cX9_init 34 = .ok (.putfield 23, 3) := by decide +kernel
theorem dX9_init_37 : decode cX9_init 37 = .ok (.aload_n 0, 1) := by decide +kernel
theorem dX9_init_38 : decode cX9_init 38 = .ok (.new 26, 3) := by decide +kernel
theorem dX9_init_41 : decode cX9_init 41 = .ok (.dup, 1) := by decide +kernel
theorem dX9_init_42 : decode cX9_init 42 = .ok (.invokespecial 28, 3) := by decide +kernel
theorem dX9_init_45 : decode cX9_init 45 = .ok (.putfield 29, 3) := by decide +kernel
theorem dX9_init_48 : decode cX9_init 48 = .ok (.aload_n 0, 1) := by decide +kernel
theorem dX9_init_49 : decode cX9_init 49 = .ok (.new 33, 3) := by decide +kernel
theorem dX9_init_52 : decode cX9_init 52 = .ok (.dup, 1) := by decide +kernel
theorem dX9_init_53 : decode cX9_init 53 = .ok (.invokespecial 35, 3) := by decide +kernel
theorem dX9_init_56 : decode cX9_init 56 = .ok (.putfield 36, 3) := by decide +kernel
theorem dX9_init_59 : decode cX9_init 59 = .ok (.aload_n 0, 1) := by decide +kernel
theorem dX9_init_60 : decode cX9_init 60 = .ok (.new 40, 3) := by decide +kernel
theorem dX9_init_63 : decode cX9_init 63 = .ok (.dup, 1) := by decide +kernel
theorem dX9_init_64 : decode cX9_init 64 = .ok (.invokespecial 42, 3) := by decide +kernel
theorem dX9_init_67 : decode cX9_init 67 = .ok (.putfield 43, 3) := by decide +kernel
theorem dX9_init_70 : decode cX9_init 70 = .ok (.aload_n 0, 1) := by decide +kernel
theorem dX9_init_71 : decode cX9_init 71 = .ok (.iconst 4, 1) := by decide +kernel
theorem dX9_init_72 : decode cX9_init 72 = .ok (.anewarray 47, 3) := by decide +kernel
theorem dX9_init_75 : decode cX9_init 75 = .ok (.dup, 1) := by decide +kernel
theorem dX9_init_76 : decode cX9_init 76 = .ok (.iconst 0, 1) := by decide +kernel
theorem dX9_init_77 : decode cX9_init 77 = .ok (.new 47, 3) := by decide +kernel
theorem dX9_init_80 : decode cX9_init 80 = .ok (.dup, 1) := by decide +kernel
theorem dX9_init_81 : decode cX9_init 81 = .ok (.invokespecial 49, 3) := by decide +kernel
theorem dX9_init_84 : decode cX9_init 84 = .ok (.aastore, 1) := by decide +kernel
theorem dX9_init_85 : decode cX9_init 85 = .ok (.dup, 1) := by decide +kernel
theorem dX9_init_86 : decode cX9_init 86 = .ok (.iconst 1, 1) := by decide +kernel
theorem dX9_init_87 : decode cX9_init 87 = .ok (.new 47, 3) := by decide +kernel
theorem dX9_init_90 : decode cX9_init 90 = .ok (.dup, 1) := by decide +kernel
theorem dX9_init_91 : decode cX9_init 91 = .ok (.invokespecial 49, 3) := by decide +kernel
theorem dX9_init_94 : decode cX9_init 94 = .ok (.aastore, 1) := by decide +kernel
theorem dX9_init_95 : decode cX9_init 95 = .ok (.dup, 1) := by decide +kernel
theorem dX9_init_96 : decode cX9_init 96 = .ok (.iconst 2, 1) := by decide +kernel
theorem dX9_init_97 : decode cX9_init 97 = .ok (.new 47, 3) := by decide +kernel
theorem dX9_init_100 : decode cX9_init 100 = .ok (.dup, 1) := by decide +kernel
theorem dX9_init_101 : decode cX9_init 101 = .ok (.invokespecial 49, 3) := by decide +kernel
theorem dX9_init_104 : decode cX9_init 104 = .ok (.aastore, 1) := by decide +kernel
theorem dX9_init_105 : decode cX9_init 105 = .ok (.dup, 1) := by decide +kernel
theorem dX9_init_106 : decode cX9_init 106 = .ok (.iconst 3, 1) := by decide +kernel
theorem dX9_init_107 : decode cX9_init 107 = .ok (.new 47, 3) := by decide +kernel
theorem dX9_init_110 : decode cX9_init 110 = .ok (.dup, 1) := by decide +kernel
theorem dX9_init_111 : decode cX9_init 111 = .ok (.invokespecial 49, 3) := by decide +kernel
theorem dX9_init_114 : decode cX9_init 114 = .ok (.aastore, 1) := by decide +kernel
theorem dX9_init_115 : decode cX9_init 115 = .ok (.putfield 50, 3) := by decide +kernel
theorem dX9_init_118 : decode cX9_init 118 = .ok (.return_, 1) := by decide +kernel
set_option maxRecDepth 20000 in
theorem ggX9_type_X7_canTake : GoodIn wsX9_type wsX7_canTake := goodIn_r _ [5, 6, 7, 8] (by decide +kernel) (by decide +kernel)
set_option maxRecDepth 20000 in
theorem gX9_type_X7_canTake : GoodIn wsX9_type (va_wsS RX9 54 yX7_canTake wsX7_canTake) := goodIn_app (goodIn_of _ (by decide +kernel)) ggX9_type_X7_canTake
set_option maxRecDepth 20000 in
theorem ggX9_type_X7_append : GoodIn wsX9_type wsX7_append := goodIn_r _ [12, 13, 14, 23, 24, 25, 26, 27] (by decide +kernel) (by decide +kernel)
set_option maxRecDepth 20000 in
theorem gX9_type_X7_append : GoodIn wsX9_type (wsV RX9 58 RX7 yX7_append wsX7_append) := goodIn_app (goodIn_of _ (by decide +kernel)) ggX9_type_X7_append
theorem dX9_type_0 : decode cX9_type 0 = .ok (.iload_n 3, 1) := by decide +kernel
theorem dX9_type_1 : decode cX9_type 1 = .ok (.iconst 1, 1) := by decide +kernel
theorem dX9_type_2 : decode cX9_type 2 = .ok (.if_icmp .lt 17, 3) := by decide +kernel
theorem dX9_type_5 : decode cX9_type 5 = .ok (.iload_n 3, 1) := by decide +kernel
theorem dX9_type_6 : decode cX9_type 6 = .ok (.bipush 8, 2) := by decide +kernel
theorem dX9_type_8 : decode cX9_type 8 = .ok (.if_icmp .gt 11, 3) := by decide +kernel
theorem dX9_type_11 : decode cX9_type 11 = .ok (.lload_n 1, 1) := by decide +kernel
theorem dX9_type_12 : decode cX9_type 12 = .ok (.iload_n 3, 1) := by decide +kernel
theorem dX9_type_13 : decode cX9_type 13 = .ok (.invokestatic 54, 3) := by decide +kernel
theorem dX9_type_16 : decode cX9_type 16 = .ok (.ifCond .ne 5, 3) := by decide +kernel
theorem dX9_type_19 : decode cX9_type 19 = .ok (.iconst (-1), 1) := by decide +kernel
theorem dX9_type_20 : decode cX9_type 20 = .ok (.ireturn, 1) := by decide +kernel
theorem dX9_type_21 : decode cX9_type 21 = .ok (.aload_n 0, 1) := by decide +kernel
theorem dX9_type_22 : decode cX9_type 22 = .ok (.getfield 12, 3) := by decide +kernel
theorem dX9_type_25 : decode cX9_type 25 = .ok (.lload_n 1, 1) := by decide +kernel
theorem dX9_type_26 : decode cX9_type 26 = .ok (.iload_n 3, 1) := by decide +kernel
theorem dX9_type_27 : decode cX9_type 27 = .ok (.invokevirtual 58, 3) := by decide +kernel
theorem dX9_type_30 : decode cX9_type 30 = .ok (.ireturn, 1) := by decide +kernel
set_option maxRecDepth 20000 in
theorem ggX9_marsh_X7_read : GoodIn wsX9_marsh wsX7_read := goodIn_r _ [11, 12, 13, 14, 15, 16, 17, 18, 10, 19, 20, 21, 22, 23, 24, 25, 26, 27, 28, 29, 30, 31, 62, 63, 64, 65, 66] (by decide +kernel) (by decide +kernel)
set_option maxRecDepth 20000 in
theorem gX9_marsh_X7_read : GoodIn wsX9_marsh (wsV RX9 62 RX7 yX7_read wsX7_read) := goodIn_app (goodIn_of _ (by decide +kernel)) ggX9_marsh_X7_read
set_option maxRecDepth 20000 in
theorem ggX9_marsh_X7_clear : GoodIn wsX9_marsh wsX7_clear := goodIn_r _ [35, 14, 62, 63, 64, 65, 66] (by decide +kernel) (by decide +kernel)
set_option maxRecDepth 20000 in
theorem gX9_marsh_X7_clear : GoodIn wsX9_marsh (wsV RX9 66 RX7 yX7_clear wsX7_clear) := goodIn_app (goodIn_of _ (by decide +kernel)) ggX9_marsh_X7_clear
set_option maxRecDepth 20000 in
theorem ggX9_marsh_X4_lay : GoodIn wsX9_marsh wsX4_lay := goodIn_r _ [40, 41, 42, 43, 67, 68, 69, 70] (by decide +kernel) (by decide +kernel)
set_option maxRecDepth 20000 in
theorem gX9_marsh_X4_lay : GoodIn wsX9_marsh (wsV RX9 81 RX4 yX4_lay wsX4_lay) := goodIn_app (goodIn_of _ (by decide +kernel)) ggX9_marsh_X4_lay
set_option maxRecDepth 20000 in
theorem ggX9_marsh_X1_rise : GoodIn wsX9_marsh wsX1_rise := goodIn_r _ [48, 49, 50, 71, 72, 73, 74, 75] (by decide +kernel) (by decide +kernel)
set_option maxRecDepth 20000 in
theorem gX9_marsh_X1_rise : GoodIn wsX9_marsh (wsV RX9 91 RX1 yX1_rise wsX1_rise) := goodIn_app (goodIn_of _ (by decide +kernel)) ggX9_marsh_X1_rise
theorem dX9_marsh_0 : decode cX9_marsh 0 = .ok (.aload_n 0, 1) := by decide +kernel
theorem dX9_marsh_1 : decode cX9_marsh 1 = .ok (.getfield 12, 3) := by decide +kernel
theorem dX9_marsh_4 : decode cX9_marsh 4 = .ok (.invokevirtual 62, 3) := by decide +kernel
theorem dX9_marsh_7 : decode cX9_marsh 7 = .ok (.istore_n 1, 1) := by decide +kernel
theorem dX9_marsh_8 : decode cX9_marsh 8 = .ok (.aload_n 0, 1) := by decide +kernel
theorem dX9_marsh_9 : decode cX9_marsh 9 = .ok (.getfield 12, 3) := by decide +kernel
theorem dX9_marsh_12 : decode cX9_marsh 12 = .ok (.invokevirtual 66, 3) := by decide +kernel
theorem dX9_marsh_15 : decode cX9_marsh 15 = .ok (.iload_n 1, 1) := by decide +kernel
theorem dX9_marsh_16 : decode cX9_marsh 16 = .ok (.ifCond .ge 5, 3) := by decide +kernel
theorem dX9_marsh_19 : decode cX9_marsh 19 = .ok (.iload_n 1, 1) := by decide +kernel
theorem dX9_marsh_20 : decode cX9_marsh 20 = .ok (.ireturn, 1) := by decide +kernel
theorem dX9_marsh_21 : decode cX9_marsh 21 = .ok (.aload_n 0, 1) := by decide +kernel
theorem dX9_marsh_22 : decode cX9_marsh 22 = .ok (.getfield 19, 3) := by decide +kernel
theorem dX9_marsh_25 : decode cX9_marsh 25 = .ok (.getfield 69, 3) := by decide +kernel
theorem dX9_marsh_28 : decode cX9_marsh 28 = .ok (.aload_n 0, 1) := by decide +kernel
theorem dX9_marsh_29 : decode cX9_marsh 29 = .ok (.getfield 12, 3) := by decide +kernel
theorem dX9_marsh_32 : decode cX9_marsh 32 = .ok (.getfield 73, 3) := by decide +kernel
theorem dX9_marsh_35 : decode cX9_marsh 35 = .ok (.aload_n 0, 1) := by decide +kernel
theorem dX9_marsh_36 : decode cX9_marsh 36 = .ok (.getfield 12, 3) := by decide +kernel
theorem dX9_marsh_39 : decode cX9_marsh 39 = .ok (.getfield 77, 3) := by decide +kernel
theorem dX9_marsh_42 : decode cX9_marsh 42 = .ok (.iload_n 1, 1) := by decide +kernel
theorem dX9_marsh_43 : decode cX9_marsh 43 = .ok (.invokevirtual 81, 3) := by decide +kernel
theorem dX9_marsh_46 : decode cX9_marsh 46 = .ok (.aload_n 0, 1) := by decide +kernel
theorem dX9_marsh_47 : decode cX9_marsh 47 = .ok (.getfield 19, 3) := by decide +kernel
theorem dX9_marsh_50 : decode cX9_marsh 50 = .ok (.getfield 87, 3) := by decide +kernel
theorem dX9_marsh_53 : decode cX9_marsh 53 = .ok (.invokevirtual 91, 3) := by decide +kernel
theorem dX9_marsh_56 : decode cX9_marsh 56 = .ok (.iload_n 1, 1) := by decide +kernel
theorem dX9_marsh_57 : decode cX9_marsh 57 = .ok (.ireturn, 1) := by decide +kernel
set_option maxRecDepth 20000 in
theorem ggX9_drain_X9_isCell : GoodIn wsX9_drain wsX9_isCell := goodIn_r _ [8, 9, 10, 7, 11] (by decide +kernel) (by decide +kernel)
set_option maxRecDepth 20000 in
theorem gX9_drain_X9_isCell : GoodIn wsX9_drain (va_wsS RX9 96 yX9_isCell wsX9_isCell) := goodIn_app (goodIn_of _ (by decide +kernel)) ggX9_drain_X9_isCell
set_option maxRecDepth 20000 in
theorem ggX9_drain_X4_isFirm : GoodIn wsX9_drain wsX4_isFirm := goodIn_r _ [16, 17, 18, 7, 19, 32, 33, 34, 35] (by decide +kernel) (by decide +kernel)
set_option maxRecDepth 20000 in
theorem gX9_drain_X4_isFirm : GoodIn wsX9_drain (wsV RX9 100 RX4 yX4_isFirm wsX4_isFirm) := goodIn_app (goodIn_of _ (by decide +kernel)) ggX9_drain_X4_isFirm
set_option maxRecDepth 20000 in
theorem ggX9_drain_X9_bit : GoodIn wsX9_drain wsX9_bit := goodIn_r _ [19] (by decide +kernel) (by decide +kernel)
set_option maxRecDepth 20000 in
theorem gX9_drain_X9_bit : GoodIn wsX9_drain (va_wsS RX9 104 yX9_bit wsX9_bit) := goodIn_app (goodIn_of _ (by decide +kernel)) ggX9_drain_X9_bit
theorem dX9_drain_0 : decode cX9_drain 0 = .ok (.iload_n 1, 1) := by decide +kernel
theorem dX9_drain_1 : decode cX9_drain 1 = .ok (.invokestatic 96, 3) := by decide +kernel
theorem dX9_drain_4 : decode cX9_drain 4 = .ok (.ifCond .ne 5, 3) := by decide +kernel
theorem dX9_drain_7 : decode cX9_drain 7 = .ok (.iconst (-1), 1) := by decide +kernel
theorem dX9_drain_8 : decode cX9_drain 8 = .ok (.ireturn, 1) := by decide +kernel
theorem dX9_drain_9 : decode cX9_drain 9 = .ok (.aload_n 0, 1) := by decide +kernel
theorem dX9_drain_10 : decode cX9_drain 10 = .ok (.getfield 19, 3) := by decide +kernel
theorem dX9_drain_13 : decode cX9_drain 13 = .ok (.getfield 69, 3) := by decide +kernel
theorem dX9_drain_16 : decode cX9_drain 16 = .ok (.astore_n 3, 1) := by decide +kernel
theorem dX9_drain_17 : decode cX9_drain 17 = .ok (.aload_n 3, 1) := by decide +kernel
theorem dX9_drain_18 : decode cX9_drain 18 = .ok (.iload_n 1, 1) := by decide +kernel
theorem dX9_drain_19 : decode cX9_drain 19 = .ok (.invokevirtual 100, 3) := by decide +kernel
theorem dX9_drain_22 : decode cX9_drain 22 = .ok (.ifCond .eq 7, 3) := by decide +kernel
theorem dX9_drain_25 : decode cX9_drain 25 = .ok (.iconst 1, 1) := by decide +kernel
theorem dX9_drain_26 : decode cX9_drain 26 = .ok (.goto 4, 3) := by decide +kernel
theorem dX9_drain_29 : decode cX9_drain 29 = .ok (.iconst 0, 1) := by decide +kernel
theorem dX9_drain_30 : decode cX9_drain 30 = .ok (.istore 4, 2) := by decide +kernel
theorem dX9_drain_32 : decode cX9_drain 32 = .ok (.aload_n 3, 1) := by decide +kernel
theorem dX9_drain_33 : decode cX9_drain 33 = .ok (.iload_n 2, 1) := by decide +kernel
theorem dX9_drain_34 : decode cX9_drain 34 = .ok (.ifCond .eq 15, 3) := by decide +kernel
theorem dX9_drain_37 : decode cX9_drain 37 = .ok (.aload_n 3, 1) := by decide +kernel
theorem dX9_drain_38 : decode cX9_drain 38 = .ok (.getfield 103, 3) := by decide +kernel
theorem dX9_drain_41 : decode cX9_drain 41 = .ok (.iload_n 1, 1) := by decide +kernel
theorem dX9_drain_42 : decode cX9_drain 42 = .ok (.invokestatic 104, 3) := by decide +kernel
theorem dX9_drain_45 : decode cX9_drain 45 = .ok (.lor, 1) := by decide +kernel
theorem dX9_drain_46 : decode cX9_drain 46 = .ok (.goto 16, 3) := by decide +kernel
theorem dX9_drain_49 : decode cX9_drain 49 = .ok (.aload_n 3, 1) := by decide +kernel
theorem dX9_drain_50 : decode cX9_drain 50 = .ok (.getfield 103, 3) := by decide +kernel
theorem dX9_drain_53 : decode cX9_drain 53 = .ok (.iload_n 1, 1) := by decide +kernel
theorem dX9_drain_54 : decode cX9_drain 54 = .ok (.invokestatic 104, 3) := by decide +kernel
theorem dX9_drain_57 : decode cX9_drain 57 = .ok (.ldc2_w 108, 3) := by decide +kernel
theorem dX9_drain_60 : decode cX9_drain 60 = .ok (.lxor, 1) := by decide +kernel
theorem dX9_drain_61 : decode cX9_drain 61 = .ok (.land, 1) := by decide +kernel
theorem dX9_drain_62 : decode cX9_drain 62 = .ok (.putfield 103, 3) := by decide +kernel
theorem dX9_drain_65 : decode cX9_drain 65 = .ok (.iload 4, 2) := by decide +kernel
theorem dX9_drain_67 : decode cX9_drain 67 = .ok (.ireturn, 1) := by decide +kernel
set_option maxRecDepth 20000 in
theorem ggX9_tuft_X9_isCell : GoodIn wsX9_tuft wsX9_isCell := goodIn_r _ [8, 9, 10, 7, 11] (by decide +kernel) (by decide +kernel)
set_option maxRecDepth 20000 in
theorem gX9_tuft_X9_isCell : GoodIn wsX9_tuft (va_wsS RX9 96 yX9_isCell wsX9_isCell) := goodIn_app (goodIn_of _ (by decide +kernel)) ggX9_tuft_X9_isCell
theorem dX9_tuft_0 : decode cX9_tuft 0 = .ok (.iload_n 1, 1) := by decide +kernel
theorem dX9_tuft_1 : decode cX9_tuft 1 = .ok (.invokestatic 96, 3) := by decide +kernel
theorem dX9_tuft_4 : decode cX9_tuft 4 = .ok (.ifCond .ne 5, 3) := by decide +kernel
theorem dX9_tuft_7 : decode cX9_tuft 7 = .ok (.iconst (-1), 1) := by decide +kernel
theorem dX9_tuft_8 : decode cX9_tuft 8 = .ok (.ireturn, 1) := by decide +kernel
theorem dX9_tuft_9 : decode cX9_tuft 9 = .ok (.aload_n 0, 1) := by decide +kernel
theorem dX9_tuft_10 : decode cX9_tuft 10 = .ok (.getfield 19, 3) := by decide +kernel
theorem dX9_tuft_13 : decode cX9_tuft 13 = .ok (.getfield 69, 3) := by decide +kernel
theorem dX9_tuft_16 : decode cX9_tuft 16 = .ok (.astore_n 2, 1) := by decide +kernel
theorem dX9_tuft_17 : decode cX9_tuft 17 = .ok (.aload_n 2, 1) := by decide +kernel
theorem dX9_tuft_18 : decode cX9_tuft 18 = .ok (.getfield 110, 3) := by decide +kernel
theorem dX9_tuft_21 : decode cX9_tuft 21 = .ok (.bipush 6, 2) := by decide +kernel
theorem dX9_tuft_23 : decode cX9_tuft 23 = .ok (.if_icmp .lt 6, 3) := by decide +kernel
theorem dX9_tuft_26 : decode cX9_tuft 26 = .ok (.bipush (-3), 2) := by decide +kernel
theorem dX9_tuft_28 : decode cX9_tuft 28 = .ok (.ireturn, 1) := by decide +kernel
theorem dX9_tuft_29 : decode cX9_tuft 29 = .ok (.aload_n 2, 1) := by decide +kernel
theorem dX9_tuft_30 : decode cX9_tuft 30 = .ok (.getfield 110, 3) := by decide +kernel
theorem dX9_tuft_33 : decode cX9_tuft 33 = .ok (.istore_n 3, 1) := by decide +kernel
theorem dX9_tuft_34 : decode cX9_tuft 34 = .ok (.aload_n 2, 1) := by decide +kernel
theorem dX9_tuft_35 : decode cX9_tuft 35 = .ok (.getfield 114, 3) := by decide +kernel
theorem dX9_tuft_38 : decode cX9_tuft 38 = .ok (.iload_n 3, 1) := by decide +kernel
theorem dX9_tuft_39 : decode cX9_tuft 39 = .ok (.iload_n 1, 1) := by decide +kernel
theorem dX9_tuft_40 : decode cX9_tuft 40 = .ok (.iastore, 1) := by decide +kernel
theorem dX9_tuft_41 : decode cX9_tuft 41 = .ok (.aload_n 2, 1) := by decide +kernel
theorem dX9_tuft_42 : decode cX9_tuft 42 = .ok (.iload_n 3, 1) := by decide +kernel
theorem dX9_tuft_43 : decode cX9_tuft 43 = .ok (.iconst 1, 1) := by decide +kernel
theorem dX9_tuft_44 : decode cX9_tuft 44 = .ok (.iadd, 1) := by decide +kernel
theorem dX9_tuft_45 : decode cX9_tuft 45 = .ok (.putfield 110, 3) := by decide +kernel
theorem dX9_tuft_48 : decode cX9_tuft 48 = .ok (.iload_n 3, 1) := by decide +kernel
theorem dX9_tuft_49 : decode cX9_tuft 49 = .ok (.ireturn, 1) := by decide +kernel
set_option maxRecDepth 20000 in
theorem ggX9_plant_X9_isTuft : GoodIn wsX9_plant wsX9_isTuft := goodIn_r _ [8, 1, 2, 9, 10, 11, 7, 12, 16, 17, 18, 19, 20, 21, 22, 23, 24, 25, 26, 27, 28, 29, 30] (by decide +kernel) (by decide +kernel)
set_option maxRecDepth 20000 in
theorem gX9_plant_X9_isTuft : GoodIn wsX9_plant (wsV RX9 115 RX9 yX9_isTuft wsX9_isTuft) := goodIn_app (goodIn_of _ (by decide +kernel)) ggX9_plant_X9_isTuft
set_option maxRecDepth 20000 in
theorem ggX9_plant_X9_isCell : GoodIn wsX9_plant wsX9_isCell := goodIn_r _ [15, 10, 11, 7, 12] (by decide +kernel) (by decide +kernel)
set_option maxRecDepth 20000 in
theorem gX9_plant_X9_isCell : GoodIn wsX9_plant (va_wsS RX9 96 yX9_isCell wsX9_isCell) := goodIn_app (goodIn_of _ (by decide +kernel)) ggX9_plant_X9_isCell
theorem dX9_plant_0 : decode cX9_plant 0 = .ok (.aload_n 0, 1) := by decide +kernel
theorem dX9_plant_1 : decode cX9_plant 1 = .ok (.iload_n 1, 1) := by decide +kernel
theorem dX9_plant_2 : decode cX9_plant 2 = .ok (.invokevirtual 115, 3) := by decide +kernel
theorem dX9_plant_5 : decode cX9_plant 5 = .ok (.ifCond .eq 10, 3) := by decide +kernel
theorem dX9_plant_8 : decode cX9_plant 8 = .ok (.iload_n 2, 1) := by decide +kernel
theorem dX9_plant_9 : decode cX9_plant 9 = .ok (.invokestatic 96, 3) := by decide +kernel
theorem dX9_plant_12 : decode cX9_plant 12 = .ok (.ifCond .ne 5, 3) := by decide +kernel
theorem dX9_plant_15 : decode cX9_plant 15 = .ok (.iconst (-1), 1) := by decide +kernel
theorem dX9_plant_16 : decode cX9_plant 16 = .ok (.ireturn, 1) := by decide +kernel
theorem dX9_plant_17 : decode cX9_plant 17 = .ok (.aload_n 0, 1) := by decide +kernel
theorem dX9_plant_18 : decode cX9_plant 18 = .ok (.getfield 19, 3) := by decide +kernel
theorem dX9_plant_21 : decode cX9_plant 21 = .ok (.getfield 69, 3) := by decide +kernel
theorem dX9_plant_24 : decode cX9_plant 24 = .ok (.getfield 114, 3) := by decide +kernel
theorem dX9_plant_27 : decode cX9_plant 27 = .ok (.iload_n 1, 1) := by decide +kernel
theorem dX9_plant_28 : decode cX9_plant 28 = .ok (.iaload, 1) := by decide +kernel
theorem dX9_plant_29 : decode cX9_plant 29 = .ok (.istore_n 3, 1) := by decide +kernel
theorem dX9_plant_30 : decode cX9_plant 30 = .ok (.aload_n 0, 1) := by decide +kernel
theorem dX9_plant_31 : decode cX9_plant 31 = .ok (.getfield 19, 3) := by decide +kernel
theorem dX9_plant_34 : decode cX9_plant 34 = .ok (.getfield 69, 3) := by decide +kernel
theorem dX9_plant_37 : decode cX9_plant 37 = .ok (.getfield 114, 3) := by decide +kernel
theorem dX9_plant_40 : decode cX9_plant 40 = .ok (.iload_n 1, 1) := by decide +kernel
theorem dX9_plant_41 : decode cX9_plant 41 = .ok (.iload_n 2, 1) := by decide +kernel
theorem dX9_plant_42 : decode cX9_plant 42 = .ok (.iastore, 1) := by decide +kernel
theorem dX9_plant_43 : decode cX9_plant 43 = .ok (.iload_n 3, 1) := by decide +kernel
theorem dX9_plant_44 : decode cX9_plant 44 = .ok (.ireturn, 1) := by decide +kernel
set_option maxRecDepth 20000 in
theorem ggX9_person_X9_isBelow : GoodIn wsX9_person wsX9_isBelow := goodIn_r _ [7] (by decide +kernel) (by decide +kernel)
set_option maxRecDepth 20000 in
theorem gX9_person_X9_isBelow : GoodIn wsX9_person (va_wsS RX9 118 yX9_isBelow wsX9_isBelow) := goodIn_app (goodIn_of _ (by decide +kernel)) ggX9_person_X9_isBelow
set_option maxRecDepth 20000 in
theorem ggX9_person_X1_add : GoodIn wsX9_person wsX1_add := goodIn_r _ [12, 13, 14, 15, 16, 17, 18, 11, 19, 20, 21, 33, 34, 35, 36, 37] (by decide +kernel) (by decide +kernel)
set_option maxRecDepth 20000 in
theorem gX9_person_X1_add : GoodIn wsX9_person (wsV RX9 125 RX1 yX1_add wsX1_add) := goodIn_app (goodIn_of _ (by decide +kernel)) ggX9_person_X1_add
theorem dX9_person_0 : decode cX9_person 0 = .ok (.iload_n 1, 1) := by decide +kernel
theorem dX9_person_1 : decode cX9_person 1 = .ok (.iconst 4, 1) := by decide +kernel
theorem dX9_person_2 : decode cX9_person 2 = .ok (.invokestatic 118, 3) := by decide +kernel
theorem dX9_person_5 : decode cX9_person 5 = .ok (.ifCond .ne 5, 3) := by decide +kernel
theorem dX9_person_8 : decode cX9_person 8 = .ok (.iconst (-1), 1) := by decide +kernel
theorem dX9_person_9 : decode cX9_person 9 = .ok (.ireturn, 1) := by decide +kernel
theorem dX9_person_10 : decode cX9_person 10 = .ok (.aload_n 0, 1) := by decide +kernel
theorem dX9_person_11 : decode cX9_person 11 = .ok (.getfield 19, 3) := by decide +kernel
theorem dX9_person_14 : decode cX9_person 14 = .ok (.getfield 87, 3) := by decide +kernel
theorem dX9_person_17 : decode cX9_person 17 = .ok (.astore_n 2, 1) := by decide +kernel
theorem dX9_person_18 : decode cX9_person 18 = .ok (.aload_n 2, 1) := by decide +kernel
theorem dX9_person_19 : decode cX9_person 19 = .ok (.getfield 122, 3) := by decide +kernel
theorem dX9_person_22 : decode cX9_person 22 = .ok (.bipush 6, 2) := by decide +kernel
theorem dX9_person_24 : decode cX9_person 24 = .ok (.if_icmp .lt 6, 3) := by decide +kernel
theorem dX9_person_27 : decode cX9_person 27 = .ok (.bipush (-3), 2) := by decide +kernel
theorem dX9_person_29 : decode cX9_person 29 = .ok (.ireturn, 1) := by decide +kernel
theorem dX9_person_30 : decode cX9_person 30 = .ok (.aload_n 2, 1) := by decide +kernel
theorem dX9_person_31 : decode cX9_person 31 = .ok (.iload_n 1, 1) := by decide +kernel
theorem dX9_person_32 : decode cX9_person 32 = .ok (.invokevirtual 125, 3) := by decide +kernel
theorem dX9_person_35 : decode cX9_person 35 = .ok (.ireturn, 1) := by decide +kernel
set_option maxRecDepth 20000 in
theorem ggX9_sit_X9_isPerson : GoodIn wsX9_sit wsX9_isPerson := goodIn_r _ [8, 1, 2, 9, 10, 11, 7, 12, 23, 24, 25, 26, 27, 28, 29, 30, 31, 32, 33, 34, 35, 36, 37, 38] (by decide +kernel) (by decide +kernel)
set_option maxRecDepth 20000 in
theorem gX9_sit_X9_isPerson : GoodIn wsX9_sit (wsV RX9 129 RX9 yX9_isPerson wsX9_isPerson) := goodIn_app (goodIn_of _ (by decide +kernel)) ggX9_sit_X9_isPerson
set_option maxRecDepth 20000 in
theorem ggX9_sit_X9_isCell : GoodIn wsX9_sit wsX9_isCell := goodIn_r _ [15, 10, 11, 7, 12] (by decide +kernel) (by decide +kernel)
set_option maxRecDepth 20000 in
theorem gX9_sit_X9_isCell : GoodIn wsX9_sit (va_wsS RX9 96 yX9_isCell wsX9_isCell) := goodIn_app (goodIn_of _ (by decide +kernel)) ggX9_sit_X9_isCell
set_option maxRecDepth 20000 in
theorem ggX9_sit_X9_isBelow : GoodIn wsX9_sit wsX9_isBelow := goodIn_r _ [12] (by decide +kernel) (by decide +kernel)
set_option maxRecDepth 20000 in
theorem gX9_sit_X9_isBelow : GoodIn wsX9_sit (va_wsS RX9 118 yX9_isBelow wsX9_isBelow) := goodIn_app (goodIn_of _ (by decide +kernel)) ggX9_sit_X9_isBelow
set_option maxRecDepth 20000 in
theorem ggX9_sit_X1_seat : GoodIn wsX9_sit wsX1_seat := goodIn_r _ [20, 21, 22, 34, 35, 36, 37, 38] (by decide +kernel) (by decide +kernel)
set_option maxRecDepth 20000 in
theorem gX9_sit_X1_seat : GoodIn wsX9_sit (wsV RX9 135 RX1 yX1_seat wsX1_seat) := goodIn_app (goodIn_of _ (by decide +kernel)) ggX9_sit_X1_seat
theorem dX9_sit_0 : decode cX9_sit 0 = .ok (.aload_n 0, 1) := by decide +kernel
theorem dX9_sit_1 : decode cX9_sit 1 = .ok (.iload_n 1, 1) := by decide +kernel
theorem dX9_sit_2 : decode cX9_sit 2 = .ok (.invokevirtual 129, 3) := by decide +kernel
theorem dX9_sit_5 : decode cX9_sit 5 = .ok (.ifCond .eq 19, 3) := by decide +kernel
theorem dX9_sit_8 : decode cX9_sit 8 = .ok (.iload_n 2, 1) := by decide +kernel
theorem dX9_sit_9 : decode cX9_sit 9 = .ok (.invokestatic 96, 3) := by decide +kernel
theorem dX9_sit_12 : decode cX9_sit 12 = .ok (.ifCond .eq 12, 3) := by decide +kernel
theorem dX9_sit_15 : decode cX9_sit 15 = .ok (.iload_n 3, 1) := by decide +kernel
theorem dX9_sit_16 : decode cX9_sit 16 = .ok (.bipush 100, 2) := by decide +kernel
theorem dX9_sit_18 : decode cX9_sit 18 = .ok (.invokestatic 118, 3) := by decide +kernel
theorem dX9_sit_21 : decode cX9_sit 21 = .ok (.ifCond .ne 5, 3) := by decide +kernel
theorem dX9_sit_24 : decode cX9_sit 24 = .ok (.iconst (-1), 1) := by decide +kernel
theorem dX9_sit_25 : decode cX9_sit 25 = .ok (.ireturn, 1) := by decide +kernel
theorem dX9_sit_26 : decode cX9_sit 26 = .ok (.aload_n 0, 1) := by decide +kernel
theorem dX9_sit_27 : decode cX9_sit 27 = .ok (.getfield 19, 3) := by decide +kernel
theorem dX9_sit_30 : decode cX9_sit 30 = .ok (.getfield 87, 3) := by decide +kernel
theorem dX9_sit_33 : decode cX9_sit 33 = .ok (.getfield 132, 3) := by decide +kernel
theorem dX9_sit_36 : decode cX9_sit 36 = .ok (.iload_n 1, 1) := by decide +kernel
theorem dX9_sit_37 : decode cX9_sit 37 = .ok (.iaload, 1) := by decide +kernel
theorem dX9_sit_38 : decode cX9_sit 38 = .ok (.istore 4, 2) := by decide +kernel
theorem dX9_sit_40 : decode cX9_sit 40 = .ok (.aload_n 0, 1) := by decide +kernel
theorem dX9_sit_41 : decode cX9_sit 41 = .ok (.getfield 19, 3) := by decide +kernel
theorem dX9_sit_44 : decode cX9_sit 44 = .ok (.getfield 87, 3) := by decide +kernel
theorem dX9_sit_47 : decode cX9_sit 47 = .ok (.iload_n 1, 1) := by decide +kernel
theorem dX9_sit_48 : decode cX9_sit 48 = .ok (.iload_n 2, 1) := by decide +kernel
theorem dX9_sit_49 : decode cX9_sit 49 = .ok (.iload_n 3, 1) := by decide +kernel
theorem dX9_sit_50 : decode cX9_sit 50 = .ok (.invokevirtual 135, 3) := by decide +kernel
theorem dX9_sit_53 : decode cX9_sit 53 = .ok (.iload 4, 2) := by decide +kernel
theorem dX9_sit_55 : decode cX9_sit 55 = .ok (.ireturn, 1) := by decide +kernel
set_option maxRecDepth 20000 in
theorem ggX9_told_X9_isPerson : GoodIn wsX9_told wsX9_isPerson := goodIn_r _ [11, 1, 2, 12, 13, 14, 10, 15, 22, 23, 24, 25, 26, 27, 28, 29, 30, 31, 32, 33, 34, 35, 36, 37] (by decide +kernel) (by decide +kernel)
set_option maxRecDepth 20000 in
theorem gX9_told_X9_isPerson : GoodIn wsX9_told (wsV RX9 129 RX9 yX9_isPerson wsX9_isPerson) := goodIn_app (goodIn_of _ (by decide +kernel)) ggX9_told_X9_isPerson
set_option maxRecDepth 20000 in
theorem ggX9_told_X1_sits : GoodIn wsX9_told wsX1_sits := goodIn_r _ [20, 21, 33, 34, 35, 36, 37] (by decide +kernel) (by decide +kernel)
set_option maxRecDepth 20000 in
theorem gX9_told_X1_sits : GoodIn wsX9_told (wsV RX9 142 RX1 yX1_sits wsX1_sits) := goodIn_app (goodIn_of _ (by decide +kernel)) ggX9_told_X1_sits
theorem dX9_told_0 : decode cX9_told 0 = .ok (.aload_n 0, 1) := by decide +kernel
theorem dX9_told_1 : decode cX9_told 1 = .ok (.iload_n 1, 1) := by decide +kernel
theorem dX9_told_2 : decode cX9_told 2 = .ok (.invokevirtual 129, 3) := by decide +kernel
theorem dX9_told_5 : decode cX9_told 5 = .ok (.ifCond .ne 5, 3) := by decide +kernel
theorem dX9_told_8 : decode cX9_told 8 = .ok (.iconst (-1), 1) := by decide +kernel
theorem dX9_told_9 : decode cX9_told 9 = .ok (.ireturn, 1) := by decide +kernel
theorem dX9_told_10 : decode cX9_told 10 = .ok (.aload_n 0, 1) := by decide +kernel
theorem dX9_told_11 : decode cX9_told 11 = .ok (.getfield 19, 3) := by decide +kernel
theorem dX9_told_14 : decode cX9_told 14 = .ok (.getfield 87, 3) := by decide +kernel
theorem dX9_told_17 : decode cX9_told 17 = .ok (.astore_n 3, 1) := by decide +kernel
theorem dX9_told_18 : decode cX9_told 18 = .ok (.iload_n 2, 1) := by decide +kernel
theorem dX9_told_19 : decode cX9_told 19 = .ok (.tableswitch 70 0 3 #[29, 36, 56, 63], 29) := by decide +kernel
theorem dX9_told_48 : decode cX9_told 48 = .ok (.aload_n 3, 1) := by decide +kernel
theorem dX9_told_49 : decode cX9_told 49 = .ok (.getfield 139, 3) := by decide +kernel
theorem dX9_told_52 : decode cX9_told 52 = .ok (.iload_n 1, 1) := by decide +kernel
theorem dX9_told_53 : decode cX9_told 53 = .ok (.iaload, 1) := by decide +kernel
theorem dX9_told_54 : decode cX9_told 54 = .ok (.ireturn, 1) := by decide +kernel
theorem dX9_told_55 : decode cX9_told 55 = .ok (.aload_n 3, 1) := by decide +kernel
theorem dX9_told_56 : decode cX9_told 56 = .ok (.iload_n 1, 1) := by decide +kernel
theorem dX9_told_57 : decode cX9_told 57 = .ok (.invokevirtual 142, 3) := by decide +kernel
theorem dX9_told_60 : decode cX9_told 60 = .ok (.ifCond .eq 12, 3) := by decide +kernel
theorem dX9_told_63 : decode cX9_told 63 = .ok (.aload_n 3, 1) := by decide +kernel
theorem dX9_told_64 : decode cX9_told 64 = .ok (.getfield 145, 3) := by decide +kernel
theorem dX9_told_67 : decode cX9_told 67 = .ok (.iload_n 1, 1) := by decide +kernel
theorem dX9_told_68 : decode cX9_told 68 = .ok (.iaload, 1) := by decide +kernel
theorem dX9_told_69 : decode cX9_told 69 = .ok (.goto 5, 3) := by decide +kernel
theorem dX9_told_72 : decode cX9_told 72 = .ok (.bipush (-4), 2) := by decide +kernel
theorem dX9_told_74 : decode cX9_told 74 = .ok (.ireturn, 1) := by decide +kernel
theorem dX9_told_75 : decode cX9_told 75 = .ok (.aload_n 3, 1) := by decide +kernel
theorem dX9_told_76 : decode cX9_told 76 = .ok (.getfield 132, 3) := by decide +kernel
theorem dX9_told_79 : decode cX9_told 79 = .ok (.iload_n 1, 1) := by decide +kernel
theorem dX9_told_80 : decode cX9_told 80 = .ok (.iaload, 1) := by decide +kernel
theorem dX9_told_81 : decode cX9_told 81 = .ok (.ireturn, 1) := by decide +kernel
theorem dX9_told_82 : decode cX9_told 82 = .ok (.aload_n 3, 1) := by decide +kernel
theorem dX9_told_83 : decode cX9_told 83 = .ok (.getfield 148, 3) := by decide +kernel
theorem dX9_told_86 : decode cX9_told 86 = .ok (.iload_n 1, 1) := by decide +kernel
theorem dX9_told_87 : decode cX9_told 87 = .ok (.iaload, 1) := by decide +kernel
theorem dX9_told_88 : decode cX9_told 88 = .ok (.ireturn, 1) := by decide +kernel
theorem dX9_told_89 : decode cX9_told 89 = .ok (.iconst (-1), 1) := by decide +kernel
theorem dX9_told_90 : decode cX9_told 90 = .ok (.ireturn, 1) := by decide +kernel
set_option maxRecDepth 20000 in
theorem ggX9_of_X9_isCell : GoodIn wsX9_of wsX9_isCell := goodIn_r _ [7, 8, 9, 6, 10] (by decide +kernel) (by decide +kernel)
set_option maxRecDepth 20000 in
theorem gX9_of_X9_isCell : GoodIn wsX9_of (va_wsS RX9 96 yX9_isCell wsX9_isCell) := goodIn_app (goodIn_of _ (by decide +kernel)) ggX9_of_X9_isCell
set_option maxRecDepth 20000 in
theorem ggX9_of_X4_isFirm : GoodIn wsX9_of wsX4_isFirm := goodIn_r _ [15, 16, 17, 6, 18, 64, 65, 66, 67] (by decide +kernel) (by decide +kernel)
set_option maxRecDepth 20000 in
theorem gX9_of_X4_isFirm : GoodIn wsX9_of (wsV RX9 100 RX4 yX4_isFirm wsX4_isFirm) := goodIn_app (goodIn_of _ (by decide +kernel)) ggX9_of_X4_isFirm
set_option maxRecDepth 20000 in
theorem ggX9_of_X4_tuftsIn : GoodIn wsX9_of wsX4_tuftsIn := goodIn_r _ [22, 23, 24, 64, 65, 66, 67] (by decide +kernel) (by decide +kernel)
set_option maxRecDepth 20000 in
theorem gX9_of_X4_tuftsIn : GoodIn wsX9_of (wsV RX9 151 RX4 yX4_tuftsIn wsX4_tuftsIn) := goodIn_app (goodIn_of _ (by decide +kernel)) ggX9_of_X4_tuftsIn
set_option maxRecDepth 20000 in
theorem ggX9_of_X4_walkable : GoodIn wsX9_of wsX4_walkable := goodIn_r _ [28, 29, 30, 31, 14, 32, 33, 34, 16, 23, 24, 17, 6, 18, 64, 65, 66, 67] (by decide +kernel) (by decide +kernel)
set_option maxRecDepth 20000 in
theorem gX9_of_X4_walkable : GoodIn wsX9_of (wsV RX9 154 RX4 yX4_walkable wsX4_walkable) := goodIn_app (goodIn_of _ (by decide +kernel)) ggX9_of_X4_walkable
set_option maxRecDepth 20000 in
theorem ggX9_of_X9_bit : GoodIn wsX9_of wsX9_bit := goodIn_r _ [18] (by decide +kernel) (by decide +kernel)
set_option maxRecDepth 20000 in
theorem gX9_of_X9_bit : GoodIn wsX9_of (va_wsS RX9 104 yX9_bit wsX9_bit) := goodIn_app (goodIn_of _ (by decide +kernel)) ggX9_of_X9_bit
set_option maxRecDepth 20000 in
theorem ggX9_of_X1_weightIn : GoodIn wsX9_of wsX1_weightIn := goodIn_r _ [40, 41, 42, 43, 44, 45, 39, 46, 47, 48, 49, 50, 51, 52, 68, 69, 70, 71, 72] (by decide +kernel) (by decide +kernel)
set_option maxRecDepth 20000 in
theorem gX9_of_X1_weightIn : GoodIn wsX9_of (wsV RX9 158 RX1 yX1_weightIn wsX1_weightIn) := goodIn_app (goodIn_of _ (by decide +kernel)) ggX9_of_X1_weightIn
theorem dX9_of_0 : decode cX9_of 0 = .ok (.iload_n 1, 1) := by decide +kernel
theorem dX9_of_1 : decode cX9_of 1 = .ok (.invokestatic 96, 3) := by decide +kernel
theorem dX9_of_4 : decode cX9_of 4 = .ok (.ifCond .ne 5, 3) := by decide +kernel
theorem dX9_of_7 : decode cX9_of 7 = .ok (.iconst (-1), 1) := by decide +kernel
theorem dX9_of_8 : decode cX9_of 8 = .ok (.ireturn, 1) := by decide +kernel
theorem dX9_of_9 : decode cX9_of 9 = .ok (.aload_n 0, 1) := by decide +kernel
theorem dX9_of_10 : decode cX9_of 10 = .ok (.getfield 19, 3) := by decide +kernel
theorem dX9_of_13 : decode cX9_of 13 = .ok (.getfield 69, 3) := by decide +kernel
theorem dX9_of_16 : decode cX9_of 16 = .ok (.astore_n 3, 1) := by decide +kernel
theorem dX9_of_17 : decode cX9_of 17 = .ok (.iload_n 2, 1) := by decide +kernel
theorem dX9_of_18 : decode cX9_of 18 = .ok (.tableswitch 82 0 3 #[30, 44, 50, 70], 30) := by decide +kernel
theorem dX9_of_48 : decode cX9_of 48 = .ok (.aload_n 3, 1) := by decide +kernel
theorem dX9_of_49 : decode cX9_of 49 = .ok (.iload_n 1, 1) := by decide +kernel
theorem dX9_of_50 : decode cX9_of 50 = .ok (.invokevirtual 100, 3) := by decide +kernel
theorem dX9_of_53 : decode cX9_of 53 = .ok (.ifCond .eq 7, 3) := by decide +kernel
theorem dX9_of_56 : decode cX9_of 56 = .ok (.iconst 1, 1) := by decide +kernel
theorem dX9_of_57 : decode cX9_of 57 = .ok (.goto 4, 3) := by decide +kernel
theorem dX9_of_60 : decode cX9_of 60 = .ok (.iconst 0, 1) := by decide +kernel
theorem dX9_of_61 : decode cX9_of 61 = .ok (.ireturn, 1) := by decide +kernel
theorem dX9_of_62 : decode cX9_of 62 = .ok (.aload_n 3, 1) := by decide +kernel
theorem dX9_of_63 : decode cX9_of 63 = .ok (.iload_n 1, 1) := by decide +kernel
theorem dX9_of_64 : decode cX9_of 64 = .ok (.invokevirtual 151, 3) := by decide +kernel
theorem dX9_of_67 : decode cX9_of 67 = .ok (.ireturn, 1) := by decide +kernel
theorem dX9_of_68 : decode cX9_of 68 = .ok (.aload_n 3, 1) := by decide +kernel
theorem dX9_of_69 : decode cX9_of 69 = .ok (.invokevirtual 154, 3) := by decide +kernel
theorem dX9_of_72 : decode cX9_of 72 = .ok (.iload_n 1, 1) := by decide +kernel
theorem dX9_of_73 : decode cX9_of 73 = .ok (.invokestatic 104, 3) := by decide +kernel
theorem dX9_of_76 : decode cX9_of 76 = .ok (.land, 1) := by decide +kernel
theorem dX9_of_77 : decode cX9_of 77 = .ok (.lconst 0, 1) := by decide +kernel
theorem dX9_of_78 : decode cX9_of 78 = .ok (.lcmp, 1) := by decide +kernel
theorem dX9_of_79 : decode cX9_of 79 = .ok (.ifCond .eq 7, 3) := by decide +kernel
theorem dX9_of_82 : decode cX9_of 82 = .ok (.iconst 1, 1) := by decide +kernel
theorem dX9_of_83 : decode cX9_of 83 = .ok (.goto 4, 3) := by decide +kernel
theorem dX9_of_86 : decode cX9_of 86 = .ok (.iconst 0, 1) := by decide +kernel
theorem dX9_of_87 : decode cX9_of 87 = .ok (.ireturn, 1) := by decide +kernel
theorem dX9_of_88 : decode cX9_of 88 = .ok (.aload_n 0, 1) := by decide +kernel
theorem dX9_of_89 : decode cX9_of 89 = .ok (.getfield 19, 3) := by decide +kernel
theorem dX9_of_92 : decode cX9_of 92 = .ok (.getfield 87, 3) := by decide +kernel
theorem dX9_of_95 : decode cX9_of 95 = .ok (.iload_n 1, 1) := by decide +kernel
theorem dX9_of_96 : decode cX9_of 96 = .ok (.invokevirtual 158, 3) := by decide +kernel
theorem dX9_of_99 : decode cX9_of 99 = .ok (.ireturn, 1) := by decide +kernel
theorem dX9_of_100 : decode cX9_of 100 = .ok (.iconst (-1), 1) := by decide +kernel
theorem dX9_of_101 : decode cX9_of 101 = .ok (.ireturn, 1) := by decide +kernel
set_option maxRecDepth 20000 in
theorem ggX9_frost_X9_isBelow : GoodIn wsX9_frost wsX9_isBelow := goodIn_r _ [7] (by decide +kernel) (by decide +kernel)
set_option maxRecDepth 20000 in
theorem gX9_frost_X9_isBelow : GoodIn wsX9_frost (va_wsS RX9 118 yX9_isBelow wsX9_isBelow) := goodIn_app (goodIn_of _ (by decide +kernel)) ggX9_frost_X9_isBelow
theorem dX9_frost_0 : decode cX9_frost 0 = .ok (.iload_n 1, 1) := by decide +kernel
theorem dX9_frost_1 : decode cX9_frost 1 = .ok (.bipush 10, 2) := by decide +kernel
theorem dX9_frost_3 : decode cX9_frost 3 = .ok (.invokestatic 118, 3) := by decide +kernel
theorem dX9_frost_6 : decode cX9_frost 6 = .ok (.ifCond .ne 5, 3) := by decide +kernel
theorem dX9_frost_9 : decode cX9_frost 9 = .ok (.iconst (-1), 1) := by decide +kernel
theorem dX9_frost_10 : decode cX9_frost 10 = .ok (.ireturn, 1) := by decide +kernel
theorem dX9_frost_11 : decode cX9_frost 11 = .ok (.aload_n 0, 1) := by decide +kernel
theorem dX9_frost_12 : decode cX9_frost 12 = .ok (.getfield 19, 3) := by decide +kernel
theorem dX9_frost_15 : decode cX9_frost 15 = .ok (.getfield 69, 3) := by decide +kernel
theorem dX9_frost_18 : decode cX9_frost 18 = .ok (.getfield 161, 3) := by decide +kernel
theorem dX9_frost_21 : decode cX9_frost 21 = .ok (.istore_n 2, 1) := by decide +kernel
theorem dX9_frost_22 : decode cX9_frost 22 = .ok (.aload_n 0, 1) := by decide +kernel
theorem dX9_frost_23 : decode cX9_frost 23 = .ok (.getfield 19, 3) := by decide +kernel
theorem dX9_frost_26 : decode cX9_frost 26 = .ok (.getfield 69, 3) := by decide +kernel
theorem dX9_frost_29 : decode cX9_frost 29 = .ok (.iload_n 1, 1) := by decide +kernel
theorem dX9_frost_30 : decode cX9_frost 30 = .ok (.putfield 161, 3) := by decide +kernel
theorem dX9_frost_33 : decode cX9_frost 33 = .ok (.iload_n 2, 1) := by decide +kernel
theorem dX9_frost_34 : decode cX9_frost 34 = .ok (.ireturn, 1) := by decide +kernel
set_option maxRecDepth 20000 in
theorem ggX9_count_J13_bitCount_95d88 : GoodIn wsX9_count wsJ13_bitCount_95d88 := goodIn_r _ [12, 13, 14, 15] (by decide +kernel) (by decide +kernel)
set_option maxRecDepth 20000 in
theorem gX9_count_J13_bitCount_95d88 : GoodIn wsX9_count (va_wsS RX9 164 yJ13_bitCount_95d88 wsJ13_bitCount_95d88) := goodIn_app (goodIn_of _ (by decide +kernel)) ggX9_count_J13_bitCount_95d88
set_option maxRecDepth 20000 in
theorem ggX9_count_X1_aching : GoodIn wsX9_count wsX1_aching := goodIn_r _ [20, 21, 22, 38, 39, 40, 41, 42] (by decide +kernel) (by decide +kernel)
set_option maxRecDepth 20000 in
theorem gX9_count_X1_aching : GoodIn wsX9_count (wsV RX9 173 RX1 yX1_aching wsX1_aching) := goodIn_app (goodIn_of _ (by decide +kernel)) ggX9_count_X1_aching
theorem dX9_count_0 : decode cX9_count 0 = .ok (.iload_n 1, 1) := by decide +kernel
theorem dX9_count_1 : decode cX9_count 1 = .ok (.tableswitch 105 0 5 #[39, 50, 61, 75, 83, 94], 39) := by decide +kernel
theorem dX9_count_40 : decode cX9_count 40 = .ok (.aload_n 0, 1) := by decide +kernel
theorem dX9_count_41 : decode cX9_count 41 = .ok (.getfield 19, 3) := by decide +kernel
theorem dX9_count_44 : decode cX9_count 44 = .ok (.getfield 69, 3) := by decide +kernel
theorem dX9_count_47 : decode cX9_count 47 = .ok (.getfield 110, 3) := by decide +kernel
theorem dX9_count_50 : decode cX9_count 50 = .ok (.ireturn, 1) := by decide +kernel
theorem dX9_count_51 : decode cX9_count 51 = .ok (.aload_n 0, 1) := by decide +kernel
theorem dX9_count_52 : decode cX9_count 52 = .ok (.getfield 19, 3) := by decide +kernel
theorem dX9_count_55 : decode cX9_count 55 = .ok (.getfield 87, 3) := by decide +kernel
theorem dX9_count_58 : decode cX9_count 58 = .ok (.getfield 122, 3) := by decide +kernel
theorem dX9_count_61 : decode cX9_count 61 = .ok (.ireturn, 1) := by decide +kernel
theorem dX9_count_62 : decode cX9_count 62 = .ok (.aload_n 0, 1) := by decide +kernel
theorem dX9_count_63 : decode cX9_count 63 = .ok (.getfield 19, 3) := by decide +kernel
theorem dX9_count_66 : decode cX9_count 66 = .ok (.getfield 69, 3) := by decide +kernel
theorem dX9_count_69 : decode cX9_count 69 = .ok (.getfield 103, 3) := by decide +kernel
theorem dX9_count_72 : decode cX9_count 72 = .ok (.invokestatic 164, 3) := by decide +kernel
theorem dX9_count_75 : decode cX9_count 75 = .ok (.ireturn, 1) := by decide +kernel
theorem dX9_count_76 : decode cX9_count 76 = .ok (.aload_n 0, 1) := by decide +kernel
theorem dX9_count_77 : decode cX9_count 77 = .ok (.getfield 19, 3) := by decide +kernel
theorem dX9_count_80 : decode cX9_count 80 = .ok (.getfield 170, 3) := by decide +kernel
theorem dX9_count_83 : decode cX9_count 83 = .ok (.ireturn, 1) := by decide +kernel
theorem dX9_count_84 : decode cX9_count 84 = .ok (.aload_n 0, 1) := by decide +kernel
theorem dX9_count_85 : decode cX9_count 85 = .ok (.getfield 19, 3) := by decide +kernel
theorem dX9_count_88 : decode cX9_count 88 = .ok (.getfield 69, 3) := by decide +kernel
theorem dX9_count_91 : decode cX9_count 91 = .ok (.getfield 161, 3) := by decide +kernel
theorem dX9_count_94 : decode cX9_count 94 = .ok (.ireturn, 1) := by decide +kernel
theorem dX9_count_95 : decode cX9_count 95 = .ok (.aload_n 0, 1) := by decide +kernel
theorem dX9_count_96 : decode cX9_count 96 = .ok (.getfield 19, 3) := by decide +kernel
theorem dX9_count_99 : decode cX9_count 99 = .ok (.getfield 87, 3) := by decide +kernel
theorem dX9_count_102 : decode cX9_count 102 = .ok (.invokevirtual 173, 3) := by decide +kernel
theorem dX9_count_105 : decode cX9_count 105 = .ok (.ireturn, 1) := by decide +kernel
theorem dX9_count_106 : decode cX9_count 106 = .ok (.iconst (-1), 1) := by decide +kernel
theorem dX9_count_107 : decode cX9_count 107 = .ok (.ireturn, 1) := by decide +kernel
set_option maxRecDepth 20000 in
theorem ggX9_moss_X9_isTuft : GoodIn wsX9_moss wsX9_isTuft := goodIn_r _ [8, 1, 2, 9, 10, 11, 7, 12, 13, 14, 15, 16, 17, 18, 19, 20, 21, 22, 23, 24, 25, 26, 27] (by decide +kernel) (by decide +kernel)
set_option maxRecDepth 20000 in
theorem gX9_moss_X9_isTuft : GoodIn wsX9_moss (wsV RX9 115 RX9 yX9_isTuft wsX9_isTuft) := goodIn_app (goodIn_of _ (by decide +kernel)) ggX9_moss_X9_isTuft
theorem dX9_moss_0 : decode cX9_moss 0 = .ok (.aload_n 0, 1) := by decide +kernel
theorem dX9_moss_1 : decode cX9_moss 1 = .ok (.iload_n 1, 1) := by decide +kernel
theorem dX9_moss_2 : decode cX9_moss 2 = .ok (.invokevirtual 115, 3) := by decide +kernel
theorem dX9_moss_5 : decode cX9_moss 5 = .ok (.ifCond .eq 18, 3) := by decide +kernel
theorem dX9_moss_8 : decode cX9_moss 8 = .ok (.aload_n 0, 1) := by decide +kernel
theorem dX9_moss_9 : decode cX9_moss 9 = .ok (.getfield 19, 3) := by decide +kernel
theorem dX9_moss_12 : decode cX9_moss 12 = .ok (.getfield 69, 3) := by decide +kernel
theorem dX9_moss_15 : decode cX9_moss 15 = .ok (.getfield 114, 3) := by decide +kernel
theorem dX9_moss_18 : decode cX9_moss 18 = .ok (.iload_n 1, 1) := by decide +kernel
theorem dX9_moss_19 : decode cX9_moss 19 = .ok (.iaload, 1) := by decide +kernel
theorem dX9_moss_20 : decode cX9_moss 20 = .ok (.goto 4, 3) := by decide +kernel
theorem dX9_moss_23 : decode cX9_moss 23 = .ok (.iconst (-1), 1) := by decide +kernel
theorem dX9_moss_24 : decode cX9_moss 24 = .ok (.ireturn, 1) := by decide +kernel
set_option maxRecDepth 20000 in
theorem ggX9_pull_X9_isCell : GoodIn wsX9_pull wsX9_isCell := goodIn_r _ [8, 9, 10, 7, 11] (by decide +kernel) (by decide +kernel)
set_option maxRecDepth 20000 in
theorem gX9_pull_X9_isCell : GoodIn wsX9_pull (va_wsS RX9 96 yX9_isCell wsX9_isCell) := goodIn_app (goodIn_of _ (by decide +kernel)) ggX9_pull_X9_isCell
set_option maxRecDepth 20000 in
theorem ggX9_pull_X9_isTuft : GoodIn wsX9_pull wsX9_isTuft := goodIn_r _ [15, 1, 3, 16, 9, 10, 7, 11, 41, 42, 43, 44, 45, 46, 47, 48, 49, 50, 51, 52, 53, 54, 55] (by decide +kernel) (by decide +kernel)
set_option maxRecDepth 20000 in
theorem gX9_pull_X9_isTuft : GoodIn wsX9_pull (wsV RX9 115 RX9 yX9_isTuft wsX9_isTuft) := goodIn_app (goodIn_of _ (by decide +kernel)) ggX9_pull_X9_isTuft
set_option maxRecDepth 20000 in
theorem ggX9_pull_X1_isSeat : GoodIn wsX9_pull wsX1_isSeat := goodIn_r _ [21, 22, 23, 24, 25, 26, 20, 27, 28, 56, 57, 58, 59, 60] (by decide +kernel) (by decide +kernel)
set_option maxRecDepth 20000 in
theorem gX9_pull_X1_isSeat : GoodIn wsX9_pull (wsV RX9 176 RX1 yX1_isSeat wsX1_isSeat) := goodIn_app (goodIn_of _ (by decide +kernel)) ggX9_pull_X1_isSeat
set_option maxRecDepth 20000 in
theorem ggX9_pull_X1_weightIn : GoodIn wsX9_pull wsX1_weightIn := goodIn_r _ [32, 22, 23, 24, 25, 26, 20, 27, 28, 33, 34, 35, 36, 37, 56, 57, 58, 59, 60] (by decide +kernel) (by decide +kernel)
set_option maxRecDepth 20000 in
theorem gX9_pull_X1_weightIn : GoodIn wsX9_pull (wsV RX9 158 RX1 yX1_weightIn wsX1_weightIn) := goodIn_app (goodIn_of _ (by decide +kernel)) ggX9_pull_X1_weightIn
set_option maxRecDepth 20000 in
theorem ggX9_pull_X9_apart : GoodIn wsX9_pull wsX9_apart := goodIn_r _ [40] (by decide +kernel) (by decide +kernel)
set_option maxRecDepth 20000 in
theorem gX9_pull_X9_apart : GoodIn wsX9_pull (va_wsS RX9 179 yX9_apart wsX9_apart) := goodIn_app (goodIn_of _ (by decide +kernel)) ggX9_pull_X9_apart
theorem dX9_pull_0 : decode cX9_pull 0 = .ok (.iload_n 1, 1) := by decide +kernel
theorem dX9_pull_1 : decode cX9_pull 1 = .ok (.invokestatic 96, 3) := by decide +kernel
theorem dX9_pull_4 : decode cX9_pull 4 = .ok (.ifCond .eq 11, 3) := by decide +kernel
theorem dX9_pull_7 : decode cX9_pull 7 = .ok (.aload_n 0, 1) := by decide +kernel
theorem dX9_pull_8 : decode cX9_pull 8 = .ok (.iload_n 2, 1) := by decide +kernel
theorem dX9_pull_9 : decode cX9_pull 9 = .ok (.invokevirtual 115, 3) := by decide +kernel
theorem dX9_pull_12 : decode cX9_pull 12 = .ok (.ifCond .ne 7, 3) := by decide +kernel
theorem dX9_pull_15 : decode cX9_pull 15 = .ok (.sipush (-1001), 3) := by decide +kernel
theorem dX9_pull_18 : decode cX9_pull 18 = .ok (.ireturn, 1) := by decide +kernel
theorem dX9_pull_19 : decode cX9_pull 19 = .ok (.aload_n 0, 1) := by decide +kernel
theorem dX9_pull_20 : decode cX9_pull 20 = .ok (.getfield 19, 3) := by decide +kernel
theorem dX9_pull_23 : decode cX9_pull 23 = .ok (.getfield 87, 3) := by decide +kernel
theorem dX9_pull_26 : decode cX9_pull 26 = .ok (.iload_n 1, 1) := by decide +kernel
theorem dX9_pull_27 : decode cX9_pull 27 = .ok (.invokevirtual 176, 3) := by decide +kernel
theorem dX9_pull_30 : decode cX9_pull 30 = .ok (.ifCond .ne 7, 3) := by decide +kernel
theorem dX9_pull_33 : decode cX9_pull 33 = .ok (.sipush (-1002), 3) := by decide +kernel
theorem dX9_pull_36 : decode cX9_pull 36 = .ok (.ireturn, 1) := by decide +kernel
theorem dX9_pull_37 : decode cX9_pull 37 = .ok (.aload_n 0, 1) := by decide +kernel
theorem dX9_pull_38 : decode cX9_pull 38 = .ok (.getfield 19, 3) := by decide +kernel
theorem dX9_pull_41 : decode cX9_pull 41 = .ok (.getfield 87, 3) := by decide +kernel
theorem dX9_pull_44 : decode cX9_pull 44 = .ok (.iload_n 1, 1) := by decide +kernel
theorem dX9_pull_45 : decode cX9_pull 45 = .ok (.invokevirtual 158, 3) := by decide +kernel
theorem dX9_pull_48 : decode cX9_pull 48 = .ok (.iconst 3, 1) := by decide +kernel
theorem dX9_pull_49 : decode cX9_pull 49 = .ok (.iload_n 1, 1) := by decide +kernel
theorem dX9_pull_50 : decode cX9_pull 50 = .ok (.aload_n 0, 1) := by decide +kernel
theorem dX9_pull_51 : decode cX9_pull 51 = .ok (.getfield 19, 3) := by decide +kernel
theorem dX9_pull_54 : decode cX9_pull 54 = .ok (.getfield 69, 3) := by decide +kernel
theorem dX9_pull_57 : decode cX9_pull 57 = .ok (.getfield 114, 3) := by decide +kernel
theorem dX9_pull_60 : decode cX9_pull 60 = .ok (.iload_n 2, 1) := by decide +kernel
theorem dX9_pull_61 : decode cX9_pull 61 = .ok (.iaload, 1) := by decide +kernel
theorem dX9_pull_62 : decode cX9_pull 62 = .ok (.invokestatic 179, 3) := by decide +kernel
theorem dX9_pull_65 : decode cX9_pull 65 = .ok (.imul, 1) := by decide +kernel
theorem dX9_pull_66 : decode cX9_pull 66 = .ok (.isub, 1) := by decide +kernel
theorem dX9_pull_67 : decode cX9_pull 67 = .ok (.ireturn, 1) := by decide +kernel
set_option maxRecDepth 20000 in
theorem ggX9_year_X8_pass : GoodIn wsX9_year wsX8_pass := goodIn_r _ [9, 10, 11, 12, 13, 14, 15, 16, 17, 18, 19, 20, 21, 22, 23, 24, 25, 26, 27, 28, 29, 30, 31, 32, 33, 34, 35, 36, 37, 38, 39, 40, 41, 42, 43, 44, 45, 46, 47, 48, 49, 50, 51, 52, 53, 54, 55, 56, 57, 58, 59, 60, 61, 62, 63, 64, 65, 66, 67, 68, 69, 70, 71, 72, 73, 74, 75, 76, 77, 78, 79, 88, 89, 90, 98, 99, 100, 101, 102, 103, 104, 105, 106, 107, 108, 109] (by decide +kernel) (by decide +kernel)
set_option maxRecDepth 20000 in
theorem gX9_year_X8_pass : GoodIn wsX9_year (wsV RX9 187 RX8 yX8_pass wsX8_pass) := goodIn_app (goodIn_of _ (by decide +kernel)) ggX9_year_X8_pass
theorem dX9_year_0 : decode cX9_year 0 = .ok (.aload_n 0, 1) := by decide +kernel
theorem dX9_year_1 : decode cX9_year 1 = .ok (.getfield 19, 3) := by decide +kernel
theorem dX9_year_4 : decode cX9_year 4 = .ok (.getfield 170, 3) := by decide +kernel
theorem dX9_year_7 : decode cX9_year 7 = .ok (.sipush 9999, 3) := by decide +kernel
theorem dX9_year_10 : decode cX9_year 10 = .ok (.if_icmp .lt 6, 3) := by decide +kernel
theorem dX9_year_13 : decode cX9_year 13 = .ok (.bipush (-3), 2) := by decide +kernel
theorem dX9_year_15 : decode cX9_year 15 = .ok (.ireturn, 1) := by decide +kernel
theorem dX9_year_16 : decode cX9_year 16 = .ok (.aload_n 0, 1) := by decide +kernel
theorem dX9_year_17 : decode cX9_year 17 = .ok (.getfield 19, 3) := by decide +kernel
theorem dX9_year_20 : decode cX9_year 20 = .ok (.aload_n 0, 1) := by decide +kernel
theorem dX9_year_21 : decode cX9_year 21 = .ok (.getfield 29, 3) := by decide +kernel
theorem dX9_year_24 : decode cX9_year 24 = .ok (.getfield 183, 3) := by decide +kernel
theorem dX9_year_27 : decode cX9_year 27 = .ok (.invokevirtual 187, 3) := by decide +kernel
theorem dX9_year_30 : decode cX9_year 30 = .ok (.ireturn, 1) := by decide +kernel
set_option maxRecDepth 20000 in
theorem ggX9_way_X9_isCell : GoodIn wsX9_way wsX9_isCell := goodIn_r _ [6, 7, 8, 5, 9] (by decide +kernel) (by decide +kernel)
set_option maxRecDepth 20000 in
theorem gX9_way_X9_isCell : GoodIn wsX9_way (va_wsS RX9 96 yX9_isCell wsX9_isCell) := goodIn_app (goodIn_of _ (by decide +kernel)) ggX9_way_X9_isCell
set_option maxRecDepth 20000 in
theorem ggX9_way_X4_walkable : GoodIn wsX9_way wsX4_walkable := goodIn_r _ [14, 15, 16, 17, 13, 18, 19, 20, 21, 22, 23, 24, 5, 25, 47, 48, 49, 50] (by decide +kernel) (by decide +kernel)
set_option maxRecDepth 20000 in
theorem gX9_way_X4_walkable : GoodIn wsX9_way (wsV RX9 154 RX4 yX4_walkable wsX4_walkable) := goodIn_app (goodIn_of _ (by decide +kernel)) ggX9_way_X4_walkable
set_option maxRecDepth 20000 in
theorem ggX9_way_X9_steps : GoodIn wsX9_way wsX9_steps := goodIn_r _ [28, 29, 24, 5, 25, 30, 31, 32, 33, 34, 35] (by decide +kernel) (by decide +kernel)
set_option maxRecDepth 20000 in
theorem gX9_way_X9_steps : GoodIn wsX9_way (va_wsS RX9 191 yX9_steps wsX9_steps) := goodIn_app (goodIn_of _ (by decide +kernel)) ggX9_way_X9_steps
theorem dX9_way_0 : decode cX9_way 0 = .ok (.iload_n 1, 1) := by decide +kernel
theorem dX9_way_1 : decode cX9_way 1 = .ok (.invokestatic 96, 3) := by decide +kernel
theorem dX9_way_4 : decode cX9_way 4 = .ok (.ifCond .eq 10, 3) := by decide +kernel
theorem dX9_way_7 : decode cX9_way 7 = .ok (.iload_n 2, 1) := by decide +kernel
theorem dX9_way_8 : decode cX9_way 8 = .ok (.invokestatic 96, 3) := by decide +kernel
theorem dX9_way_11 : decode cX9_way 11 = .ok (.ifCond .ne 5, 3) := by decide +kernel
theorem dX9_way_14 : decode cX9_way 14 = .ok (.iconst (-1), 1) := by decide +kernel
theorem dX9_way_15 : decode cX9_way 15 = .ok (.ireturn, 1) := by decide +kernel
theorem dX9_way_16 : decode cX9_way 16 = .ok (.aload_n 0, 1) := by decide +kernel
theorem dX9_way_17 : decode cX9_way 17 = .ok (.getfield 19, 3) := by decide +kernel
theorem dX9_way_20 : decode cX9_way 20 = .ok (.getfield 69, 3) := by decide +kernel
theorem dX9_way_23 : decode cX9_way 23 = .ok (.invokevirtual 154, 3) := by decide +kernel
theorem dX9_way_26 : decode cX9_way 26 = .ok (.iload_n 1, 1) := by decide +kernel
theorem dX9_way_27 : decode cX9_way 27 = .ok (.iload_n 2, 1) := by decide +kernel
theorem dX9_way_28 : decode cX9_way 28 = .ok (.invokestatic 191, 3) := by decide +kernel
theorem dX9_way_31 : decode cX9_way 31 = .ok (.ireturn, 1) := by decide +kernel
set_option maxRecDepth 20000 in
theorem ggX9_route_X9_isCell : GoodIn wsX9_route wsX9_isCell := goodIn_r _ [8, 9, 10, 7, 11] (by decide +kernel) (by decide +kernel)
set_option maxRecDepth 20000 in
theorem gX9_route_X9_isCell : GoodIn wsX9_route (va_wsS RX9 96 yX9_isCell wsX9_isCell) := goodIn_app (goodIn_of _ (by decide +kernel)) ggX9_route_X9_isCell
set_option maxRecDepth 20000 in
theorem ggX9_route_X0_measure : GoodIn wsX9_route wsX0_measure := goodIn_r _ [16, 17, 18, 19, 20, 21, 22, 23, 24, 25, 26, 27, 28, 29, 30, 31, 32, 33, 34, 35, 36, 37, 7, 38, 39, 40, 41, 15, 42, 43, 44, 45, 46, 47, 48, 49, 50, 51, 52, 76, 77, 78, 79, 80, 81, 82] (by decide +kernel) (by decide +kernel)
set_option maxRecDepth 20000 in
theorem gX9_route_X0_measure : GoodIn wsX9_route (wsV RX9 195 RX0 yX0_measure wsX0_measure) := goodIn_app (goodIn_of _ (by decide +kernel)) ggX9_route_X0_measure
set_option maxRecDepth 20000 in
theorem ggX9_route_X0_reaches : GoodIn wsX9_route wsX0_reaches := goodIn_r _ [56, 22, 76, 77, 78] (by decide +kernel) (by decide +kernel)
set_option maxRecDepth 20000 in
theorem gX9_route_X0_reaches : GoodIn wsX9_route (wsV RX9 199 RX0 yX0_reaches wsX0_reaches) := goodIn_app (goodIn_of _ (by decide +kernel)) ggX9_route_X0_reaches
set_option maxRecDepth 20000 in
theorem ggX9_route_X0_stop : GoodIn wsX9_route wsX0_stop := goodIn_r _ [60, 61, 62, 63, 15, 64, 22, 47, 7, 48, 49, 50, 51, 52, 21, 39, 40, 41, 42, 17, 37, 38, 76, 77, 78] (by decide +kernel) (by decide +kernel)
set_option maxRecDepth 20000 in
theorem gX9_route_X0_stop : GoodIn wsX9_route (wsV RX9 205 RX0 yX0_stop wsX0_stop) := goodIn_app (goodIn_of _ (by decide +kernel)) ggX9_route_X0_stop
theorem dX9_route_0 : decode cX9_route 0 = .ok (.iload_n 1, 1) := by decide +kernel
theorem dX9_route_1 : decode cX9_route 1 = .ok (.invokestatic 96, 3) := by decide +kernel
theorem dX9_route_4 : decode cX9_route 4 = .ok (.ifCond .eq 21, 3) := by decide +kernel
theorem dX9_route_7 : decode cX9_route 7 = .ok (.iload_n 2, 1) := by decide +kernel
theorem dX9_route_8 : decode cX9_route 8 = .ok (.invokestatic 96, 3) := by decide +kernel
theorem dX9_route_11 : decode cX9_route 11 = .ok (.ifCond .eq 14, 3) := by decide +kernel
theorem dX9_route_14 : decode cX9_route 14 = .ok (.iload_n 3, 1) := by decide +kernel
theorem dX9_route_15 : decode cX9_route 15 = .ok (.iconst (-1), 1) := by decide +kernel
theorem dX9_route_16 : decode cX9_route 16 = .ok (.if_icmp .lt 9, 3) := by decide +kernel
theorem dX9_route_19 : decode cX9_route 19 = .ok (.iload_n 3, 1) := by decide +kernel
theorem dX9_route_20 : decode cX9_route 20 = .ok (.bipush 34, 2) := by decide +kernel
theorem dX9_route_22 : decode cX9_route 22 = .ok (.if_icmp .le 5, 3) := by decide +kernel
theorem dX9_route_25 : decode cX9_route 25 = .ok (.iconst (-1), 1) := by decide +kernel
theorem dX9_route_26 : decode cX9_route 26 = .ok (.ireturn, 1) := by decide +kernel
theorem dX9_route_27 : decode cX9_route 27 = .ok (.aload_n 0, 1) := by decide +kernel
theorem dX9_route_28 : decode cX9_route 28 = .ok (.getfield 43, 3) := by decide +kernel
theorem dX9_route_31 : decode cX9_route 31 = .ok (.aload_n 0, 1) := by decide +kernel
theorem dX9_route_32 : decode cX9_route 32 = .ok (.getfield 19, 3) := by decide +kernel
theorem dX9_route_35 : decode cX9_route 35 = .ok (.getfield 69, 3) := by decide +kernel
theorem dX9_route_38 : decode cX9_route 38 = .ok (.iload_n 2, 1) := by decide +kernel
theorem dX9_route_39 : decode cX9_route 39 = .ok (.invokevirtual 195, 3) := by decide +kernel
theorem dX9_route_42 : decode cX9_route 42 = .ok (.aload_n 0, 1) := by decide +kernel
theorem dX9_route_43 : decode cX9_route 43 = .ok (.getfield 43, 3) := by decide +kernel
theorem dX9_route_46 : decode cX9_route 46 = .ok (.iload_n 1, 1) := by decide +kernel
theorem dX9_route_47 : decode cX9_route 47 = .ok (.invokevirtual 199, 3) := by decide +kernel
theorem dX9_route_50 : decode cX9_route 50 = .ok (.ifCond .ne 6, 3) := by decide +kernel
theorem dX9_route_53 : decode cX9_route 53 = .ok (.bipush (-4), 2) := by decide +kernel
theorem dX9_route_55 : decode cX9_route 55 = .ok (.ireturn, 1) := by decide +kernel
theorem dX9_route_56 : decode cX9_route 56 = .ok (.iload_n 3, 1) := by decide +kernel
theorem dX9_route_57 : decode cX9_route 57 = .ok (.ifCond .ge 15, 3) := by decide +kernel
theorem dX9_route_60 : decode cX9_route 60 = .ok (.aload_n 0, 1) := by decide +kernel
theorem dX9_route_61 : decode cX9_route 61 = .ok (.getfield 43, 3) := by decide +kernel
theorem dX9_route_64 : decode cX9_route 64 = .ok (.getfield 202, 3) := by decide +kernel
theorem dX9_route_67 : decode cX9_route 67 = .ok (.iload_n 1, 1) := by decide +kernel
theorem dX9_route_68 : decode cX9_route 68 = .ok (.iaload, 1) := by decide +kernel
theorem dX9_route_69 : decode cX9_route 69 = .ok (.goto 12, 3) := by decide +kernel
theorem dX9_route_72 : decode cX9_route 72 = .ok (.aload_n 0, 1) := by decide +kernel
theorem dX9_route_73 : decode cX9_route 73 = .ok (.getfield 43, 3) := by decide +kernel
theorem dX9_route_76 : decode cX9_route 76 = .ok (.iload_n 1, 1) := by decide +kernel
theorem dX9_route_77 : decode cX9_route 77 = .ok (.iload_n 3, 1) := by decide +kernel
theorem dX9_route_78 : decode cX9_route 78 = .ok (.invokevirtual 205, 3) := by decide +kernel
theorem dX9_route_81 : decode cX9_route 81 = .ok (.ireturn, 1) := by decide +kernel
set_option maxRecDepth 20000 in
theorem ggX9_parts_X4_walkable : GoodIn wsX9_parts wsX4_walkable := goodIn_r _ [8, 9, 10, 11, 7, 12, 13, 14, 15, 16, 17, 18, 19, 20, 42, 43, 44, 45] (by decide +kernel) (by decide +kernel)
set_option maxRecDepth 20000 in
theorem gX9_parts_X4_walkable : GoodIn wsX9_parts (wsV RX9 154 RX4 yX4_walkable wsX4_walkable) := goodIn_app (goodIn_of _ (by decide +kernel)) ggX9_parts_X4_walkable
set_option maxRecDepth 20000 in
theorem ggX9_parts_X9_bit : GoodIn wsX9_parts wsX9_bit := goodIn_r _ [20] (by decide +kernel) (by decide +kernel)
set_option maxRecDepth 20000 in
theorem gX9_parts_X9_bit : GoodIn wsX9_parts (va_wsS RX9 104 yX9_bit wsX9_bit) := goodIn_app (goodIn_of _ (by decide +kernel)) ggX9_parts_X9_bit
set_option maxRecDepth 20000 in
theorem ggX9_parts_X9_joined : GoodIn wsX9_parts wsX9_joined := goodIn_r _ [24, 21, 18, 19, 20, 25, 26, 27, 28, 29, 30] (by decide +kernel) (by decide +kernel)
set_option maxRecDepth 20000 in
theorem gX9_parts_X9_joined : GoodIn wsX9_parts (va_wsS RX9 208 yX9_joined wsX9_joined) := goodIn_app (goodIn_of _ (by decide +kernel)) ggX9_parts_X9_joined
theorem dX9_parts_0 : decode cX9_parts 0 = .ok (.aload_n 0, 1) := by decide +kernel
theorem dX9_parts_1 : decode cX9_parts 1 = .ok (.getfield 19, 3) := by decide +kernel
theorem dX9_parts_4 : decode cX9_parts 4 = .ok (.getfield 69, 3) := by decide +kernel
theorem dX9_parts_7 : decode cX9_parts 7 = .ok (.invokevirtual 154, 3) := by decide +kernel
theorem dX9_parts_10 : decode cX9_parts 10 = .ok (.lstore_n 1, 1) := by decide +kernel
theorem dX9_parts_11 : decode cX9_parts 11 = .ok (.iconst 0, 1) := by decide +kernel
theorem dX9_parts_12 : decode cX9_parts 12 = .ok (.istore_n 3, 1) := by decide +kernel
theorem dX9_parts_13 : decode cX9_parts 13 = .ok (.iconst 0, 1) := by decide +kernel
theorem dX9_parts_14 : decode cX9_parts 14 = .ok (.istore 4, 2) := by decide +kernel
theorem dX9_parts_16 : decode cX9_parts 16 = .ok (.iload 4, 2) := by decide +kernel
theorem dX9_parts_18 : decode cX9_parts 18 = .ok (.bipush 36, 2) := by decide +kernel
theorem dX9_parts_20 : decode cX9_parts 20 = .ok (.if_icmp .ge 37, 3) := by decide +kernel
theorem dX9_parts_23 : decode cX9_parts 23 = .ok (.lload_n 1, 1) := by decide +kernel
theorem dX9_parts_24 : decode cX9_parts 24 = .ok (.iload 4, 2) := by decide +kernel
theorem dX9_parts_26 : decode cX9_parts 26 = .ok (.invokestatic 104, 3) := by decide +kernel
theorem dX9_parts_29 : decode cX9_parts 29 = .ok (.land, 1) := by decide +kernel
theorem dX9_parts_30 : decode cX9_parts 30 = .ok (.lconst 0, 1) := by decide +kernel
theorem dX9_parts_31 : decode cX9_parts 31 = .ok (.lcmp, 1) := by decide +kernel
theorem dX9_parts_32 : decode cX9_parts 32 = .ok (.ifCond .eq 19, 3) := by decide +kernel
theorem dX9_parts_35 : decode cX9_parts 35 = .ok (.lload_n 1, 1) := by decide +kernel
theorem dX9_parts_36 : decode cX9_parts 36 = .ok (.lload_n 1, 1) := by decide +kernel
theorem dX9_parts_37 : decode cX9_parts 37 = .ok (.iload 4, 2) := by decide +kernel
theorem dX9_parts_39 : decode cX9_parts 39 = .ok (.invokestatic 208, 3) := by decide +kernel
theorem dX9_parts_42 : decode cX9_parts 42 = .ok (.ldc2_w 108, 3) := by decide +kernel
theorem dX9_parts_45 : decode cX9_parts 45 = .ok (.lxor, 1) := by decide +kernel
theorem dX9_parts_46 : decode cX9_parts 46 = .ok (.land, 1) := by decide +kernel
theorem dX9_parts_47 : decode cX9_parts 47 = .ok (.lstore_n 1, 1) := by decide +kernel
theorem dX9_parts_48 : decode cX9_parts 48 = .ok (.iinc 3 1, 3) := by decide +kernel
theorem dX9_parts_51 : decode cX9_parts 51 = .ok (.iinc 4 1, 3) := by decide +kernel
theorem dX9_parts_54 : decode cX9_parts 54 = .ok (.goto (-38), 3) := by decide +kernel
theorem dX9_parts_57 : decode cX9_parts 57 = .ok (.iload_n 3, 1) := by decide +kernel
theorem dX9_parts_58 : decode cX9_parts 58 = .ok (.ireturn, 1) := by decide +kernel
set_option maxRecDepth 20000 in
theorem ggX9_least_X9_isPerson : GoodIn wsX9_least wsX9_isPerson := goodIn_r _ [5, 6, 7, 8, 9, 10, 4, 11, 134, 135, 136, 137, 138, 139, 140, 141, 142, 143, 144, 145, 146, 147, 148, 149] (by decide +kernel) (by decide +kernel)
set_option maxRecDepth 20000 in
theorem gX9_least_X9_isPerson : GoodIn wsX9_least (wsV RX9 129 RX9 yX9_isPerson wsX9_isPerson) := goodIn_app (goodIn_of _ (by decide +kernel)) ggX9_least_X9_isPerson
set_option maxRecDepth 20000 in
theorem ggX9_least_X9_isCell : GoodIn wsX9_least wsX9_isCell := goodIn_r _ [14, 9, 10, 4, 11] (by decide +kernel) (by decide +kernel)
set_option maxRecDepth 20000 in
theorem gX9_least_X9_isCell : GoodIn wsX9_least (va_wsS RX9 96 yX9_isCell wsX9_isCell) := goodIn_app (goodIn_of _ (by decide +kernel)) ggX9_least_X9_isCell
set_option maxRecDepth 20000 in
theorem ggX9_least_X9_isBelow : GoodIn wsX9_least wsX9_isBelow := goodIn_r _ [11] (by decide +kernel) (by decide +kernel)
set_option maxRecDepth 20000 in
theorem gX9_least_X9_isBelow : GoodIn wsX9_least (va_wsS RX9 118 yX9_isBelow wsX9_isBelow) := goodIn_app (goodIn_of _ (by decide +kernel)) ggX9_least_X9_isBelow
set_option maxRecDepth 20000 in
theorem ggX9_least_X9_fewestHours : GoodIn wsX9_least wsX9_fewestHours := goodIn_r _ [18, 19, 6, 20, 21, 22, 23, 24, 25, 26, 27, 28, 29, 30, 31, 32, 33, 34, 35, 36, 37, 38, 39, 40, 41, 42, 43, 44, 45, 46, 47, 48, 49, 50, 51, 52, 53, 54, 55, 56, 57, 58, 59, 60, 61, 62, 63, 64, 65, 66, 67, 68, 69, 70, 71, 72, 73, 74, 75, 76, 77, 78, 79, 80, 81, 82, 83, 84, 85, 86, 87, 88, 89, 90, 91, 92, 93, 94, 95, 96, 97, 98, 99, 100, 101, 102, 103, 104, 4, 105, 106, 107, 108, 109, 110, 111, 112, 113, 114, 115, 116, 117, 118, 119, 120, 121, 122, 123, 124, 125, 126, 127, 128, 129, 130, 131, 132, 133, 134, 135, 136, 137, 138, 139, 140, 141, 150, 151, 152, 153, 154, 155, 156, 142, 143, 144, 145, 146, 147, 148, 149, 157, 158, 159, 160, 161, 162, 163] (by decide +kernel) (by decide +kernel)
set_option maxRecDepth 20000 in
theorem gX9_least_X9_fewestHours : GoodIn wsX9_least (wsV RX9 212 RX9 yX9_fewestHours wsX9_fewestHours) := goodIn_app (goodIn_of _ (by decide +kernel)) ggX9_least_X9_fewestHours
theorem dX9_least_0 : decode cX9_least 0 = .ok (.aload_n 0, 1) := by decide +kernel
theorem dX9_least_1 : decode cX9_least 1 = .ok (.iload_n 1, 1) := by decide +kernel
theorem dX9_least_2 : decode cX9_least 2 = .ok (.invokevirtual 129, 3) := by decide +kernel
theorem dX9_least_5 : decode cX9_least 5 = .ok (.ifCond .eq 26, 3) := by decide +kernel
theorem dX9_least_8 : decode cX9_least 8 = .ok (.iload_n 2, 1) := by decide +kernel
theorem dX9_least_9 : decode cX9_least 9 = .ok (.invokestatic 96, 3) := by decide +kernel
theorem dX9_least_12 : decode cX9_least 12 = .ok (.ifCond .eq 19, 3) := by decide +kernel
theorem dX9_least_15 : decode cX9_least 15 = .ok (.iload_n 3, 1) := by decide +kernel
theorem dX9_least_16 : decode cX9_least 16 = .ok (.invokestatic 96, 3) := by decide +kernel
theorem dX9_least_19 : decode cX9_least 19 = .ok (.ifCond .eq 12, 3) := by decide +kernel
theorem dX9_least_22 : decode cX9_least 22 = .ok (.iload 4, 2) := by decide +kernel
theorem dX9_least_24 : decode cX9_least 24 = .ok (.iconst 2, 1) := by decide +kernel
theorem dX9_least_25 : decode cX9_least 25 = .ok (.invokestatic 118, 3) := by decide +kernel
theorem dX9_least_28 : decode cX9_least 28 = .ok (.ifCond .ne 5, 3) := by decide +kernel
theorem dX9_least_31 : decode cX9_least 31 = .ok (.iconst (-1), 1) := by decide +kernel
theorem dX9_least_32 : decode cX9_least 32 = .ok (.ireturn, 1) := by decide +kernel
theorem dX9_least_33 : decode cX9_least 33 = .ok (.aload_n 0, 1) := by decide +kernel
theorem dX9_least_34 : decode cX9_least 34 = .ok (.iload_n 1, 1) := by decide +kernel
theorem dX9_least_35 : decode cX9_least 35 = .ok (.iload_n 2, 1) := by decide +kernel
theorem dX9_least_36 : decode cX9_least 36 = .ok (.iload_n 3, 1) := by decide +kernel
theorem dX9_least_37 : decode cX9_least 37 = .ok (.invokevirtual 212, 3) := by decide +kernel
theorem dX9_least_40 : decode cX9_least 40 = .ok (.istore 5, 2) := by decide +kernel
theorem dX9_least_42 : decode cX9_least 42 = .ok (.iload 5, 2) := by decide +kernel
theorem dX9_least_44 : decode cX9_least 44 = .ok (.ifCond .ge 6, 3) := by decide +kernel
theorem dX9_least_47 : decode cX9_least 47 = .ok (.bipush (-4), 2) := by decide +kernel
theorem dX9_least_49 : decode cX9_least 49 = .ok (.ireturn, 1) := by decide +kernel
theorem dX9_least_50 : decode cX9_least 50 = .ok (.iload 4, 2) := by decide +kernel
theorem dX9_least_52 : decode cX9_least 52 = .ok (.ifCond .ne 11, 3) := by decide +kernel
theorem dX9_least_55 : decode cX9_least 55 = .ok (.iload 5, 2) := by decide +kernel
theorem dX9_least_57 : decode cX9_least 57 = .ok (.bipush 36, 2) := by decide +kernel
theorem dX9_least_59 : decode cX9_least 59 = .ok (.idiv, 1) := by decide +kernel
theorem dX9_least_60 : decode cX9_least 60 = .ok (.goto 8, 3) := by decide +kernel
theorem dX9_least_63 : decode cX9_least 63 = .ok (.iload 5, 2) := by decide +kernel
theorem dX9_least_65 : decode cX9_least 65 = .ok (.bipush 36, 2) := by decide +kernel
theorem dX9_least_67 : decode cX9_least 67 = .ok (.irem, 1) := by decide +kernel
theorem dX9_least_68 : decode cX9_least 68 = .ok (.ireturn, 1) := by decide +kernel
set_option maxRecDepth 20000 in
theorem ggX9_game_X9_isPerson : GoodIn wsX9_game wsX9_isPerson := goodIn_r _ [10, 2, 11, 12, 13, 14, 9, 15, 159, 160, 161, 162, 163, 164, 165, 166, 177, 178, 179, 180, 181, 182, 183, 184] (by decide +kernel) (by decide +kernel)
set_option maxRecDepth 20000 in
theorem gX9_game_X9_isPerson : GoodIn wsX9_game (wsV RX9 129 RX9 yX9_isPerson wsX9_isPerson) := goodIn_app (goodIn_of _ (by decide +kernel)) ggX9_game_X9_isPerson
set_option maxRecDepth 20000 in
theorem ggX9_game_X9_isStay : GoodIn wsX9_game wsX9_isStay := goodIn_r _ [18] (by decide +kernel) (by decide +kernel)
set_option maxRecDepth 20000 in
theorem gX9_game_X9_isStay : GoodIn wsX9_game (va_wsS RX9 216 yX9_isStay wsX9_isStay) := goodIn_app (goodIn_of _ (by decide +kernel)) ggX9_game_X9_isStay
set_option maxRecDepth 20000 in
theorem ggX9_game_X9_isCell : GoodIn wsX9_game wsX9_isCell := goodIn_r _ [21, 13, 14, 9, 15] (by decide +kernel) (by decide +kernel)
set_option maxRecDepth 20000 in
theorem gX9_game_X9_isCell : GoodIn wsX9_game (va_wsS RX9 96 yX9_isCell wsX9_isCell) := goodIn_app (goodIn_of _ (by decide +kernel)) ggX9_game_X9_isCell
set_option maxRecDepth 20000 in
theorem ggX9_game_X9_isBelow : GoodIn wsX9_game wsX9_isBelow := goodIn_r _ [15] (by decide +kernel) (by decide +kernel)
set_option maxRecDepth 20000 in
theorem gX9_game_X9_isBelow : GoodIn wsX9_game (va_wsS RX9 118 yX9_isBelow wsX9_isBelow) := goodIn_app (goodIn_of _ (by decide +kernel)) ggX9_game_X9_isBelow
set_option maxRecDepth 20000 in
theorem ggX9_game_X3_begin : GoodIn wsX9_game wsX3_begin := goodIn_r _ [26, 27, 28, 29, 30, 31, 32, 33, 34, 35, 36, 37, 38, 167, 168, 169, 170, 171, 172, 173, 177, 178, 179, 180, 181, 182, 183, 184] (by decide +kernel) (by decide +kernel)
set_option maxRecDepth 20000 in
theorem gX9_game_X3_begin : GoodIn wsX9_game (wsV RX9 219 RX3 yX3_begin wsX3_begin) := goodIn_app (goodIn_of _ (by decide +kernel)) ggX9_game_X3_begin
set_option maxRecDepth 20000 in
theorem ggX9_game_X1_seat : GoodIn wsX9_game wsX1_seat := goodIn_r _ [42, 36, 37, 180, 181, 182, 183, 184] (by decide +kernel) (by decide +kernel)
set_option maxRecDepth 20000 in
theorem gX9_game_X1_seat : GoodIn wsX9_game (wsV RX9 135 RX1 yX1_seat wsX1_seat) := goodIn_app (goodIn_of _ (by decide +kernel)) ggX9_game_X1_seat
set_option maxRecDepth 20000 in
theorem ggX9_game_X3_stepsThen : GoodIn wsX9_game wsX3_stepsThen := goodIn_r _ [46, 47, 48, 49, 50, 51, 52, 53, 54, 25, 55, 56, 27, 57, 58, 59, 60, 61, 62, 63, 64, 65, 66, 67, 68, 69, 70, 71, 72, 73, 74, 75, 76, 77, 78, 79, 80, 81, 82, 83, 84, 85, 86, 87, 88, 89, 32, 90, 37, 91, 92, 93, 94, 35, 95, 96, 97, 98, 99, 100, 101, 102, 103, 104, 105, 9, 106, 107, 108, 109, 110, 111, 112, 113, 34, 36, 114, 115, 116, 117, 118, 119, 120, 121, 122, 123, 124, 125, 126, 127, 128, 129, 130, 131, 132, 133, 134, 167, 168, 169, 170, 171, 172, 173, 177, 178, 179, 185, 186, 187, 188, 189, 190, 191, 180, 181, 182, 183, 184] (by decide +kernel) (by decide +kernel)
set_option maxRecDepth 20000 in
theorem gX9_game_X3_stepsThen : GoodIn wsX9_game (wsV RX9 224 RX3 yX3_stepsThen wsX3_stepsThen) := goodIn_app (goodIn_of _ (by decide +kernel)) ggX9_game_X3_stepsThen
set_option maxRecDepth 20000 in
theorem ggX9_game_X2_weigh : GoodIn wsX9_game wsX2_weigh := goodIn_r _ [139, 140, 141, 142, 143, 144, 77, 145, 146, 76, 78, 174, 175, 176] (by decide +kernel) (by decide +kernel)
set_option maxRecDepth 20000 in
theorem gX9_game_X2_weigh : GoodIn wsX9_game (wsV RX9 230 RX2 yX2_weigh wsX2_weigh) := goodIn_app (goodIn_of _ (by decide +kernel)) ggX9_game_X2_weigh
set_option maxRecDepth 20000 in
theorem ggX9_game_X2_rests : GoodIn wsX9_game wsX2_rests := goodIn_r _ [150, 151, 152, 153, 138, 154, 142, 140, 141, 174, 175, 176] (by decide +kernel) (by decide +kernel)
set_option maxRecDepth 20000 in
theorem gX9_game_X2_rests : GoodIn wsX9_game (wsV RX9 233 RX2 yX2_rests wsX2_rests) := goodIn_app (goodIn_of _ (by decide +kernel)) ggX9_game_X2_rests
set_option maxRecDepth 20000 in
theorem ggX9_game_X2_firstRest : GoodIn wsX9_game wsX2_firstRest := goodIn_r _ [158, 151, 152, 153, 138, 154, 142, 140, 141, 174, 175, 176] (by decide +kernel) (by decide +kernel)
set_option maxRecDepth 20000 in
theorem gX9_game_X2_firstRest : GoodIn wsX9_game (wsV RX9 236 RX2 yX2_firstRest wsX2_firstRest) := goodIn_app (goodIn_of _ (by decide +kernel)) ggX9_game_X2_firstRest
theorem dX9_game_0 : decode cX9_game 0 = .ok (.aload_n 0, 1) := by decide +kernel
theorem dX9_game_1 : decode cX9_game 1 = .ok (.iload_n 1, 1) := by decide +kernel
theorem dX9_game_2 : decode cX9_game 2 = .ok (.invokevirtual 129, 3) := by decide +kernel
theorem dX9_game_5 : decode cX9_game 5 = .ok (.ifCond .eq 56, 3) := by decide +kernel
theorem dX9_game_8 : decode cX9_game 8 = .ok (.aload_n 0, 1) := by decide +kernel
theorem dX9_game_9 : decode cX9_game 9 = .ok (.iload_n 2, 1) := by decide +kernel
theorem dX9_game_10 : decode cX9_game 10 = .ok (.invokevirtual 129, 3) := by decide +kernel
theorem dX9_game_13 : decode cX9_game 13 = .ok (.ifCond .eq 48, 3) := by decide +kernel
theorem dX9_game_16 : decode cX9_game 16 = .ok (.iload_n 1, 1) := by decide +kernel
theorem dX9_game_17 : decode cX9_game 17 = .ok (.iload_n 2, 1) := by decide +kernel
theorem dX9_game_18 : decode cX9_game 18 = .ok (.if_icmp .eq 43, 3) := by decide +kernel
theorem dX9_game_21 : decode cX9_game 21 = .ok (.iload_n 3, 1) := by decide +kernel
theorem dX9_game_22 : decode cX9_game 22 = .ok (.invokestatic 216, 3) := by decide +kernel
theorem dX9_game_25 : decode cX9_game 25 = .ok (.ifCond .eq 36, 3) := by decide +kernel
theorem dX9_game_28 : decode cX9_game 28 = .ok (.iload 4, 2) := by decide +kernel
theorem dX9_game_30 : decode cX9_game 30 = .ok (.invokestatic 216, 3) := by decide +kernel
theorem dX9_game_33 : decode cX9_game 33 = .ok (.ifCond .eq 28, 3) := by decide +kernel
theorem dX9_game_36 : decode cX9_game 36 = .ok (.iload 5, 2) := by decide +kernel
theorem dX9_game_38 : decode cX9_game 38 = .ok (.invokestatic 96, 3) := by decide +kernel
theorem dX9_game_41 : decode cX9_game 41 = .ok (.ifCond .eq 20, 3) := by decide +kernel
theorem dX9_game_44 : decode cX9_game 44 = .ok (.iload 6, 2) := by decide +kernel
theorem dX9_game_46 : decode cX9_game 46 = .ok (.invokestatic 96, 3) := by decide +kernel
theorem dX9_game_49 : decode cX9_game 49 = .ok (.ifCond .eq 12, 3) := by decide +kernel
theorem dX9_game_52 : decode cX9_game 52 = .ok (.iload 7, 2) := by decide +kernel
theorem dX9_game_54 : decode cX9_game 54 = .ok (.iconst 2, 1) := by decide +kernel
theorem dX9_game_55 : decode cX9_game 55 = .ok (.invokestatic 118, 3) := by decide +kernel
theorem dX9_game_58 : decode cX9_game 58 = .ok (.ifCond .ne 5, 3) := by decide +kernel
theorem dX9_game_61 : decode cX9_game 61 = .ok (.iconst (-1), 1) := by decide +kernel
theorem dX9_game_62 : decode cX9_game 62 = .ok (.ireturn, 1) := by decide +kernel
theorem dX9_game_63 : decode cX9_game 63 = .ok (.aload_n 0, 1) := by decide +kernel
theorem dX9_game_64 : decode cX9_game 64 = .ok (.getfield 29, 3) := by decide +kernel
theorem dX9_game_67 : decode cX9_game 67 = .ok (.aload_n 0, 1) := by decide +kernel
theorem dX9_game_68 : decode cX9_game 68 = .ok (.getfield 19, 3) := by decide +kernel
theorem dX9_game_71 : decode cX9_game 71 = .ok (.invokevirtual 219, 3) := by decide +kernel
theorem dX9_game_74 : decode cX9_game 74 = .ok (.iconst 0, 1) := by decide +kernel
theorem dX9_game_75 : decode cX9_game 75 = .ok (.istore 8, 2) := by decide +kernel
theorem dX9_game_77 : decode cX9_game 77 = .ok (.iload 8, 2) := by decide +kernel
theorem dX9_game_79 : decode cX9_game 79 = .ok (.bipush 36, 2) := by decide +kernel
theorem dX9_game_81 : decode cX9_game 81 = .ok (.if_icmp .ge 99, 3) := by decide +kernel
theorem dX9_game_84 : decode cX9_game 84 = .ok (.aload_n 0, 1) := by decide +kernel
theorem dX9_game_85 : decode cX9_game 85 = .ok (.getfield 29, 3) := by decide +kernel
theorem dX9_game_88 : decode cX9_game 88 = .ok (.getfield 223, 3) := by decide +kernel
theorem dX9_game_91 : decode cX9_game 91 = .ok (.iload_n 1, 1) := by decide +kernel
theorem dX9_game_92 : decode cX9_game 92 = .ok (.iload 8, 2) := by decide +kernel
theorem dX9_game_94 : decode cX9_game 94 = .ok (.iload_n 3, 1) := by decide +kernel
theorem dX9_game_95 : decode cX9_game 95 = .ok (.invokevirtual 135, 3) := by decide +kernel
theorem dX9_game_98 : decode cX9_game 98 = .ok (.iconst 0, 1) := by decide +kernel
theorem dX9_game_99 : decode cX9_game 99 = .ok (.istore 9, 2) := by decide +kernel
theorem dX9_game_101 : decode cX9_game 101 = .ok (.iload 9, 2) := by decide +kernel
theorem dX9_game_103 : decode cX9_game 103 = .ok (.bipush 36, 2) := by decide +kernel
theorem dX9_game_105 : decode cX9_game 105 = .ok (.if_icmp .ge 69, 3) := by decide +kernel
theorem dX9_game_108 : decode cX9_game 108 = .ok (.aload_n 0, 1) := by decide +kernel
theorem dX9_game_109 : decode cX9_game 109 = .ok (.getfield 29, 3) := by decide +kernel
theorem dX9_game_112 : decode cX9_game 112 = .ok (.getfield 223, 3) := by decide +kernel
theorem dX9_game_115 : decode cX9_game 115 = .ok (.iload_n 2, 1) := by decide +kernel
theorem dX9_game_116 : decode cX9_game 116 = .ok (.iload 9, 2) := by decide +kernel
theorem dX9_game_118 : decode cX9_game 118 = .ok (.iload 4, 2) := by decide +kernel
theorem dX9_game_120 : decode cX9_game 120 = .ok (.invokevirtual 135, 3) := by decide +kernel
theorem dX9_game_123 : decode cX9_game 123 = .ok (.aload_n 0, 1) := by decide +kernel
theorem dX9_game_124 : decode cX9_game 124 = .ok (.getfield 29, 3) := by decide +kernel
theorem dX9_game_127 : decode cX9_game 127 = .ok (.aload_n 0, 1) := by decide +kernel
theorem dX9_game_128 : decode cX9_game 128 = .ok (.getfield 19, 3) := by decide +kernel
theorem dX9_game_131 : decode cX9_game 131 = .ok (.iload 5, 2) := by decide +kernel
theorem dX9_game_133 : decode cX9_game 133 = .ok (.iload 6, 2) := by decide +kernel
theorem dX9_game_135 : decode cX9_game 135 = .ok (.invokevirtual 224, 3) := by decide +kernel
theorem dX9_game_138 : decode cX9_game 138 = .ok (.istore 10, 2) := by decide +kernel
theorem dX9_game_140 : decode cX9_game 140 = .ok (.aload_n 0, 1) := by decide +kernel
theorem dX9_game_141 : decode cX9_game 141 = .ok (.getfield 36, 3) := by decide +kernel
theorem dX9_game_144 : decode cX9_game 144 = .ok (.getfield 228, 3) := by decide +kernel
theorem dX9_game_147 : decode cX9_game 147 = .ok (.iload 8, 2) := by decide +kernel
theorem dX9_game_149 : decode cX9_game 149 = .ok (.bipush 36, 2) := by decide +kernel
theorem dX9_game_151 : decode cX9_game 151 = .ok (.imul, 1) := by decide +kernel
theorem dX9_game_152 : decode cX9_game 152 = .ok (.iload 9, 2) := by decide +kernel
theorem dX9_game_154 : decode cX9_game 154 = .ok (.iadd, 1) := by decide +kernel
theorem dX9_game_155 : decode cX9_game 155 = .ok (.iload 10, 2) := by decide +kernel
theorem dX9_game_157 : decode cX9_game 157 = .ok (.ifCond .ge 8, 3) := by decide +kernel
theorem dX9_game_160 : decode cX9_game 160 = .ok (.bipush 99, 2) := by decide +kernel
theorem dX9_game_162 : decode cX9_game 162 = .ok (.goto 5, 3) := by decide +kernel
theorem dX9_game_165 : decode cX9_game 165 = .ok (.iload 10, 2) := by decide +kernel
theorem dX9_game_167 : decode cX9_game 167 = .ok (.iastore, 1) := by decide +kernel
theorem dX9_game_168 : decode cX9_game 168 = .ok (.iinc 9 1, 3) := by decide +kernel
theorem dX9_game_171 : decode cX9_game 171 = .ok (.goto (-70), 3) := by decide +kernel
theorem dX9_game_174 : decode cX9_game 174 = .ok (.iinc 8 1, 3) := by decide +kernel
theorem dX9_game_177 : decode cX9_game 177 = .ok (.goto (-100), 3) := by decide +kernel
theorem dX9_game_180 : decode cX9_game 180 = .ok (.aload_n 0, 1) := by decide +kernel
theorem dX9_game_181 : decode cX9_game 181 = .ok (.getfield 36, 3) := by decide +kernel
theorem dX9_game_184 : decode cX9_game 184 = .ok (.invokevirtual 230, 3) := by decide +kernel
theorem dX9_game_187 : decode cX9_game 187 = .ok (.iload 7, 2) := by decide +kernel
theorem dX9_game_189 : decode cX9_game 189 = .ok (.ifCond .ne 13, 3) := by decide +kernel
theorem dX9_game_192 : decode cX9_game 192 = .ok (.aload_n 0, 1) := by decide +kernel
theorem dX9_game_193 : decode cX9_game 193 = .ok (.getfield 36, 3) := by decide +kernel
theorem dX9_game_196 : decode cX9_game 196 = .ok (.invokevirtual 233, 3) := by decide +kernel
theorem dX9_game_199 : decode cX9_game 199 = .ok (.goto 10, 3) := by decide +kernel
theorem dX9_game_202 : decode cX9_game 202 = .ok (.aload_n 0, 1) := by decide +kernel
theorem dX9_game_203 : decode cX9_game 203 = .ok (.getfield 36, 3) := by decide +kernel
theorem dX9_game_206 : decode cX9_game 206 = .ok (.invokevirtual 236, 3) := by decide +kernel
theorem dX9_game_209 : decode cX9_game 209 = .ok (.ireturn, 1) := by decide +kernel
