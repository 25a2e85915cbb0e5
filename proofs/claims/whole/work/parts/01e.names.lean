set_option maxRecDepth 20000 in
theorem ggX9_pilots_X9_isCell : GoodIn wsX9_pilots wsX9_isCell := goodIn_r _ [7, 8, 9, 6, 10] (by decide +kernel) (by decide +kernel)
set_option maxRecDepth 20000 in
theorem gX9_pilots_X9_isCell : GoodIn wsX9_pilots (va_wsS RX9 96 yX9_isCell wsX9_isCell) := goodIn_app (goodIn_of _ (by decide +kernel)) ggX9_pilots_X9_isCell
set_option maxRecDepth 20000 in
theorem ggX9_pilots_X4_walkable : GoodIn wsX9_pilots wsX4_walkable := goodIn_r _ [15, 16, 17, 18, 14, 19, 20, 21, 22, 23, 24, 25, 6, 26, 49, 50, 51, 52] (by decide +kernel) (by decide +kernel)
set_option maxRecDepth 20000 in
theorem gX9_pilots_X4_walkable : GoodIn wsX9_pilots (wsV RX9 154 RX4 yX4_walkable wsX4_walkable) := goodIn_app (goodIn_of _ (by decide +kernel)) ggX9_pilots_X4_walkable
set_option maxRecDepth 20000 in
theorem ggX9_pilots_X9_steps : GoodIn wsX9_pilots wsX9_steps := goodIn_r _ [29, 30, 25, 6, 26, 31, 32, 33, 34, 35, 36] (by decide +kernel) (by decide +kernel)
set_option maxRecDepth 20000 in
theorem gX9_pilots_X9_steps : GoodIn wsX9_pilots (va_wsS RX9 191 yX9_steps wsX9_steps) := goodIn_app (goodIn_of _ (by decide +kernel)) ggX9_pilots_X9_steps
set_option maxRecDepth 20000 in
theorem ggX9_pilots_X4_walkableWithout : GoodIn wsX9_pilots wsX4_walkableWithout := goodIn_r _ [19, 20, 21, 22, 23, 24, 25, 6, 26, 49, 50, 51, 52] (by decide +kernel) (by decide +kernel)
set_option maxRecDepth 20000 in
theorem gX9_pilots_X4_walkableWithout : GoodIn wsX9_pilots (wsV RX9 239 RX4 yX4_walkableWithout wsX4_walkableWithout) := goodIn_app (goodIn_of _ (by decide +kernel)) ggX9_pilots_X4_walkableWithout
theorem dX9_pilots_0 : decode cX9_pilots 0 = .ok (.iload_n 1, 1) := by decide +kernel
theorem dX9_pilots_1 : decode cX9_pilots 1 = .ok (.invokestatic 96, 3) := by decide +kernel
theorem dX9_pilots_4 : decode cX9_pilots 4 = .ok (.ifCond .eq 10, 3) := by decide +kernel
theorem dX9_pilots_7 : decode cX9_pilots 7 = .ok (.iload_n 2, 1) := by decide +kernel
theorem dX9_pilots_8 : decode cX9_pilots 8 = .ok (.invokestatic 96, 3) := by decide +kernel
theorem dX9_pilots_11 : decode cX9_pilots 11 = .ok (.ifCond .ne 5, 3) := by decide +kernel
theorem dX9_pilots_14 : decode cX9_pilots 14 = .ok (.iconst (-1), 1) := by decide +kernel
theorem dX9_pilots_15 : decode cX9_pilots 15 = .ok (.ireturn, 1) := by decide +kernel
theorem dX9_pilots_16 : decode cX9_pilots 16 = .ok (.aload_n 0, 1) := by decide +kernel
theorem dX9_pilots_17 : decode cX9_pilots 17 = .ok (.getfield 19, 3) := by decide +kernel
theorem dX9_pilots_20 : decode cX9_pilots 20 = .ok (.getfield 69, 3) := by decide +kernel
theorem dX9_pilots_23 : decode cX9_pilots 23 = .ok (.astore_n 3, 1) := by decide +kernel
theorem dX9_pilots_24 : decode cX9_pilots 24 = .ok (.aload_n 3, 1) := by decide +kernel
theorem dX9_pilots_25 : decode cX9_pilots 25 = .ok (.invokevirtual 154, 3) := by decide +kernel
theorem dX9_pilots_28 : decode cX9_pilots 28 = .ok (.iload_n 1, 1) := by decide +kernel
theorem dX9_pilots_29 : decode cX9_pilots 29 = .ok (.iload_n 2, 1) := by decide +kernel
theorem dX9_pilots_30 : decode cX9_pilots 30 = .ok (.invokestatic 191, 3) := by decide +kernel
theorem dX9_pilots_33 : decode cX9_pilots 33 = .ok (.ifCond .ge 6, 3) := by decide +kernel
theorem dX9_pilots_36 : decode cX9_pilots 36 = .ok (.bipush (-4), 2) := by decide +kernel
theorem dX9_pilots_38 : decode cX9_pilots 38 = .ok (.ireturn, 1) := by decide +kernel
theorem dX9_pilots_39 : decode cX9_pilots 39 = .ok (.iconst 0, 1) := by decide +kernel
theorem dX9_pilots_40 : decode cX9_pilots 40 = .ok (.istore 4, 2) := by decide +kernel
theorem dX9_pilots_42 : decode cX9_pilots 42 = .ok (.iconst 0, 1) := by decide +kernel
theorem dX9_pilots_43 : decode cX9_pilots 43 = .ok (.istore 5, 2) := by decide +kernel
theorem dX9_pilots_45 : decode cX9_pilots 45 = .ok (.iload 5, 2) := by decide +kernel
theorem dX9_pilots_47 : decode cX9_pilots 47 = .ok (.aload_n 3, 1) := by decide +kernel
theorem dX9_pilots_48 : decode cX9_pilots 48 = .ok (.getfield 110, 3) := by decide +kernel
theorem dX9_pilots_51 : decode cX9_pilots 51 = .ok (.if_icmp .ge 32, 3) := by decide +kernel
theorem dX9_pilots_54 : decode cX9_pilots 54 = .ok (.aload_n 3, 1) := by decide +kernel
theorem dX9_pilots_55 : decode cX9_pilots 55 = .ok (.iload 5, 2) := by decide +kernel
theorem dX9_pilots_57 : decode cX9_pilots 57 = .ok (.invokevirtual 239, 3) := by decide +kernel
theorem dX9_pilots_60 : decode cX9_pilots 60 = .ok (.iload_n 1, 1) := by decide +kernel
theorem dX9_pilots_61 : decode cX9_pilots 61 = .ok (.iload_n 2, 1) := by decide +kernel
theorem dX9_pilots_62 : decode cX9_pilots 62 = .ok (.invokestatic 191, 3) := by decide +kernel
theorem dX9_pilots_65 : decode cX9_pilots 65 = .ok (.ifCond .ge 12, 3) := by decide +kernel
theorem dX9_pilots_68 : decode cX9_pilots 68 = .ok (.iload 4, 2) := by decide +kernel
theorem dX9_pilots_70 : decode cX9_pilots 70 = .ok (.iconst 1, 1) := by decide +kernel
theorem dX9_pilots_71 : decode cX9_pilots 71 = .ok (.iload 5, 2) := by decide +kernel
theorem dX9_pilots_73 : decode cX9_pilots 73 = .ok (.ishl, 1) := by decide +kernel
theorem dX9_pilots_74 : decode cX9_pilots 74 = .ok (.ior, 1) := by decide +kernel
theorem dX9_pilots_75 : decode cX9_pilots 75 = .ok (.istore 4, 2) := by decide +kernel
theorem dX9_pilots_77 : decode cX9_pilots 77 = .ok (.iinc 5 1, 3) := by decide +kernel
theorem dX9_pilots_80 : decode cX9_pilots 80 = .ok (.goto (-35), 3) := by decide +kernel
theorem dX9_pilots_83 : decode cX9_pilots 83 = .ok (.iload 4, 2) := by decide +kernel
theorem dX9_pilots_85 : decode cX9_pilots 85 = .ok (.ireturn, 1) := by decide +kernel
set_option maxRecDepth 20000 in
theorem ggX9_image_X8_become : GoodIn wsX9_image wsX8_become := goodIn_r _ [8, 9, 10, 11, 12, 13, 14, 15, 16, 17, 18, 19, 20, 21, 22, 23, 24, 25, 26, 27, 28, 29, 30, 31, 32, 33, 34, 43, 44, 45, 46, 47, 48, 49, 50, 51, 52, 53, 54] (by decide +kernel) (by decide +kernel)
set_option maxRecDepth 20000 in
theorem gX9_image_X8_become : GoodIn wsX9_image (wsV RX9 242 RX8 yX8_become wsX8_become) := goodIn_app (goodIn_of _ (by decide +kernel)) ggX9_image_X8_become
theorem dX9_image_0 : decode cX9_image 0 = .ok (.aload_n 0, 1) := by decide +kernel
theorem dX9_image_1 : decode cX9_image 1 = .ok (.getfield 23, 3) := by decide +kernel
theorem dX9_image_4 : decode cX9_image 4 = .ok (.aload_n 0, 1) := by decide +kernel
theorem dX9_image_5 : decode cX9_image 5 = .ok (.getfield 19, 3) := by decide +kernel
theorem dX9_image_8 : decode cX9_image 8 = .ok (.invokevirtual 242, 3) := by decide +kernel
theorem dX9_image_11 : decode cX9_image 11 = .ok (.aload_n 0, 1) := by decide +kernel
theorem dX9_image_12 : decode cX9_image 12 = .ok (.iconst 1, 1) := by decide +kernel
theorem dX9_image_13 : decode cX9_image 13 = .ok (.putfield 245, 3) := by decide +kernel
theorem dX9_image_16 : decode cX9_image 16 = .ok (.iconst 1, 1) := by decide +kernel
theorem dX9_image_17 : decode cX9_image 17 = .ok (.ireturn, 1) := by decide +kernel
set_option maxRecDepth 20000 in
theorem ggX9_restore_X8_become : GoodIn wsX9_restore wsX8_become := goodIn_r _ [8, 9, 10, 11, 12, 13, 14, 15, 16, 17, 18, 19, 20, 21, 22, 23, 24, 25, 26, 27, 28, 29, 30, 31, 32, 33, 34, 43, 44, 45, 46, 47, 48, 49, 50, 51, 52, 53, 54] (by decide +kernel) (by decide +kernel)
set_option maxRecDepth 20000 in
theorem gX9_restore_X8_become : GoodIn wsX9_restore (wsV RX9 242 RX8 yX8_become wsX8_become) := goodIn_app (goodIn_of _ (by decide +kernel)) ggX9_restore_X8_become
theorem dX9_restore_0 : decode cX9_restore 0 = .ok (.aload_n 0, 1) := by decide +kernel
theorem dX9_restore_1 : decode cX9_restore 1 = .ok (.getfield 245, 3) := by decide +kernel
theorem dX9_restore_4 : decode cX9_restore 4 = .ok (.ifCond .ne 6, 3) := by decide +kernel
theorem dX9_restore_7 : decode cX9_restore 7 = .ok (.bipush (-4), 2) := by decide +kernel
theorem dX9_restore_9 : decode cX9_restore 9 = .ok (.ireturn, 1) := by decide +kernel
theorem dX9_restore_10 : decode cX9_restore 10 = .ok (.aload_n 0, 1) := by decide +kernel
theorem dX9_restore_11 : decode cX9_restore 11 = .ok (.getfield 19, 3) := by decide +kernel
theorem dX9_restore_14 : decode cX9_restore 14 = .ok (.aload_n 0, 1) := by decide +kernel
theorem dX9_restore_15 : decode cX9_restore 15 = .ok (.getfield 23, 3) := by decide +kernel
theorem dX9_restore_18 : decode cX9_restore 18 = .ok (.invokevirtual 242, 3) := by decide +kernel
theorem dX9_restore_21 : decode cX9_restore 21 = .ok (.iconst 1, 1) := by decide +kernel
theorem dX9_restore_22 : decode cX9_restore 22 = .ok (.ireturn, 1) := by decide +kernel
set_option maxRecDepth 20000 in
theorem ggX9_sat_X9_isPerson : GoodIn wsX9_sat wsX9_isPerson := goodIn_r _ [13, 3, 14, 15, 16, 17, 12, 18, 129, 130, 131, 132, 133, 134, 135, 136, 137, 138, 139, 151, 152, 153, 154, 155] (by decide +kernel) (by decide +kernel)
set_option maxRecDepth 20000 in
theorem gX9_sat_X9_isPerson : GoodIn wsX9_sat (wsV RX9 129 RX9 yX9_isPerson wsX9_isPerson) := goodIn_app (goodIn_of _ (by decide +kernel)) ggX9_sat_X9_isPerson
set_option maxRecDepth 20000 in
theorem ggX9_sat_X9_isStay : GoodIn wsX9_sat wsX9_isStay := goodIn_r _ [21] (by decide +kernel) (by decide +kernel)
set_option maxRecDepth 20000 in
theorem gX9_sat_X9_isStay : GoodIn wsX9_sat (va_wsS RX9 216 yX9_isStay wsX9_isStay) := goodIn_app (goodIn_of _ (by decide +kernel)) ggX9_sat_X9_isStay
set_option maxRecDepth 20000 in
theorem ggX9_sat_X9_isBelow : GoodIn wsX9_sat wsX9_isBelow := goodIn_r _ [18] (by decide +kernel) (by decide +kernel)
set_option maxRecDepth 20000 in
theorem gX9_sat_X9_isBelow : GoodIn wsX9_sat (va_wsS RX9 118 yX9_isBelow wsX9_isBelow) := goodIn_app (goodIn_of _ (by decide +kernel)) ggX9_sat_X9_isBelow
set_option maxRecDepth 20000 in
theorem ggX9_sat_X6_refusal : GoodIn wsX9_sat wsX6_refusal := goodIn_r _ [26, 27, 28, 29, 30, 31, 25, 32, 33, 156, 157, 158, 159] (by decide +kernel) (by decide +kernel)
set_option maxRecDepth 20000 in
theorem gX9_sat_X6_refusal : GoodIn wsX9_sat (wsV RX9 249 RX6 yX6_refusal wsX6_refusal) := goodIn_app (goodIn_of _ (by decide +kernel)) ggX9_sat_X6_refusal
set_option maxRecDepth 20000 in
theorem ggX9_sat_X3_begin : GoodIn wsX9_sat wsX3_begin := goodIn_r _ [38, 39, 40, 41, 42, 43, 44, 45, 46, 47, 48, 49, 50, 144, 145, 146, 147, 148, 149, 150, 137, 138, 139, 151, 152, 153, 154, 155] (by decide +kernel) (by decide +kernel)
set_option maxRecDepth 20000 in
theorem gX9_sat_X3_begin : GoodIn wsX9_sat (wsV RX9 219 RX3 yX3_begin wsX3_begin) := goodIn_app (goodIn_of _ (by decide +kernel)) ggX9_sat_X3_begin
set_option maxRecDepth 20000 in
theorem ggX9_sat_X1_seat : GoodIn wsX9_sat wsX1_seat := goodIn_r _ [54, 48, 49, 151, 152, 153, 154, 155] (by decide +kernel) (by decide +kernel)
set_option maxRecDepth 20000 in
theorem gX9_sat_X1_seat : GoodIn wsX9_sat (wsV RX9 135 RX1 yX1_seat wsX1_seat) := goodIn_app (goodIn_of _ (by decide +kernel)) ggX9_sat_X1_seat
set_option maxRecDepth 20000 in
theorem ggX9_sat_X3_look : GoodIn wsX9_sat wsX3_look := goodIn_r _ [58, 59, 60, 39, 61, 62, 63, 64, 65, 66, 67, 68, 69, 70, 71, 72, 73, 74, 75, 76, 77, 78, 79, 80, 81, 82, 83, 84, 85, 86, 87, 88, 89, 90, 91, 92, 93, 44, 94, 49, 95, 96, 97, 98, 47, 99, 100, 101, 102, 103, 104, 105, 106, 107, 108, 109, 12, 110, 111, 112, 113, 114, 115, 116, 117, 46, 48, 118, 119, 120, 144, 145, 146, 147, 148, 149, 150, 137, 138, 139, 140, 141, 142, 143, 160, 161, 162, 151, 152, 153, 154, 155] (by decide +kernel) (by decide +kernel)
set_option maxRecDepth 20000 in
theorem gX9_sat_X3_look : GoodIn wsX9_sat (wsV RX9 252 RX3 yX3_look wsX3_look) := goodIn_app (goodIn_of _ (by decide +kernel)) ggX9_sat_X3_look
set_option maxRecDepth 20000 in
theorem ggX9_sat_X6_tells : GoodIn wsX9_sat wsX6_tells := goodIn_r _ [124, 125, 126, 127, 140, 141, 142, 143, 156, 157, 158, 159] (by decide +kernel) (by decide +kernel)
set_option maxRecDepth 20000 in
theorem gX9_sat_X6_tells : GoodIn wsX9_sat (wsV RX9 256 RX6 yX6_tells wsX6_tells) := goodIn_app (goodIn_of _ (by decide +kernel)) ggX9_sat_X6_tells
set_option maxRecDepth 20000 in
theorem ggX9_sat_X9_bit : GoodIn wsX9_sat wsX9_bit := goodIn_r _ [120] (by decide +kernel) (by decide +kernel)
set_option maxRecDepth 20000 in
theorem gX9_sat_X9_bit : GoodIn wsX9_sat (va_wsS RX9 104 yX9_bit wsX9_bit) := goodIn_app (goodIn_of _ (by decide +kernel)) ggX9_sat_X9_bit
theorem dX9_sat_0 : decode cX9_sat 0 = .ok (.aload_n 0, 1) := by decide +kernel
theorem dX9_sat_1 : decode cX9_sat 1 = .ok (.iload_n 1, 1) := by decide +kernel
theorem dX9_sat_2 : decode cX9_sat 2 = .ok (.invokevirtual 129, 3) := by decide +kernel
theorem dX9_sat_5 : decode cX9_sat 5 = .ok (.ifCond .eq 27, 3) := by decide +kernel
theorem dX9_sat_8 : decode cX9_sat 8 = .ok (.iload_n 2, 1) := by decide +kernel
theorem dX9_sat_9 : decode cX9_sat 9 = .ok (.invokestatic 216, 3) := by decide +kernel
theorem dX9_sat_12 : decode cX9_sat 12 = .ok (.ifCond .eq 20, 3) := by decide +kernel
theorem dX9_sat_15 : decode cX9_sat 15 = .ok (.iload_n 3, 1) := by decide +kernel
theorem dX9_sat_16 : decode cX9_sat 16 = .ok (.iconst 4, 1) := by decide +kernel
theorem dX9_sat_17 : decode cX9_sat 17 = .ok (.invokestatic 118, 3) := by decide +kernel
theorem dX9_sat_20 : decode cX9_sat 20 = .ok (.ifCond .eq 12, 3) := by decide +kernel
theorem dX9_sat_23 : decode cX9_sat 23 = .ok (.iload 4, 2) := by decide +kernel
theorem dX9_sat_25 : decode cX9_sat 25 = .ok (.iconst 3, 1) := by decide +kernel
theorem dX9_sat_26 : decode cX9_sat 26 = .ok (.invokestatic 118, 3) := by decide +kernel
theorem dX9_sat_29 : decode cX9_sat 29 = .ok (.ifCond .ne 7, 3) := by decide +kernel
theorem dX9_sat_32 : decode cX9_sat 32 = .ok (.ldc2_w 108, 3) := by decide +kernel
theorem dX9_sat_35 : decode cX9_sat 35 = .ok (.lreturn, 1) := by decide +kernel
theorem dX9_sat_36 : decode cX9_sat 36 = .ok (.aload_n 0, 1) := by decide +kernel
theorem dX9_sat_37 : decode cX9_sat 37 = .ok (.getfield 50, 3) := by decide +kernel
theorem dX9_sat_40 : decode cX9_sat 40 = .ok (.iload_n 3, 1) := by decide +kernel
theorem dX9_sat_41 : decode cX9_sat 41 = .ok (.aaload, 1) := by decide +kernel
theorem dX9_sat_42 : decode cX9_sat 42 = .ok (.iload 4, 2) := by decide +kernel
theorem dX9_sat_44 : decode cX9_sat 44 = .ok (.iload 5, 2) := by decide +kernel
theorem dX9_sat_46 : decode cX9_sat 46 = .ok (.aload_n 0, 1) := by decide +kernel
theorem dX9_sat_47 : decode cX9_sat 47 = .ok (.getfield 19, 3) := by decide +kernel
theorem dX9_sat_50 : decode cX9_sat 50 = .ok (.getfield 69, 3) := by decide +kernel
theorem dX9_sat_53 : decode cX9_sat 53 = .ok (.getfield 110, 3) := by decide +kernel
theorem dX9_sat_56 : decode cX9_sat 56 = .ok (.invokevirtual 249, 3) := by decide +kernel
theorem dX9_sat_59 : decode cX9_sat 59 = .ok (.istore 6, 2) := by decide +kernel
theorem dX9_sat_61 : decode cX9_sat 61 = .ok (.iload 6, 2) := by decide +kernel
theorem dX9_sat_63 : decode cX9_sat 63 = .ok (.ifCond .eq 7, 3) := by decide +kernel
theorem dX9_sat_66 : decode cX9_sat 66 = .ok (.iload 6, 2) := by decide +kernel
theorem dX9_sat_68 : decode cX9_sat 68 = .ok (.i2l, 1) := by decide +kernel
theorem dX9_sat_69 : decode cX9_sat 69 = .ok (.lreturn, 1) := by decide +kernel
theorem dX9_sat_70 : decode cX9_sat 70 = .ok (.lconst 0, 1) := by decide +kernel
theorem dX9_sat_71 : decode cX9_sat 71 = .ok (.lstore 7, 2) := by decide +kernel
theorem dX9_sat_73 : decode cX9_sat 73 = .ok (.aload_n 0, 1) := by decide +kernel
theorem dX9_sat_74 : decode cX9_sat 74 = .ok (.getfield 29, 3) := by decide +kernel
theorem dX9_sat_77 : decode cX9_sat 77 = .ok (.aload_n 0, 1) := by decide +kernel
theorem dX9_sat_78 : decode cX9_sat 78 = .ok (.getfield 19, 3) := by decide +kernel
theorem dX9_sat_81 : decode cX9_sat 81 = .ok (.invokevirtual 219, 3) := by decide +kernel
theorem dX9_sat_84 : decode cX9_sat 84 = .ok (.iconst 0, 1) := by decide +kernel
theorem dX9_sat_85 : decode cX9_sat 85 = .ok (.istore 9, 2) := by decide +kernel
theorem dX9_sat_87 : decode cX9_sat 87 = .ok (.iload 9, 2) := by decide +kernel
theorem dX9_sat_89 : decode cX9_sat 89 = .ok (.bipush 36, 2) := by decide +kernel
theorem dX9_sat_91 : decode cX9_sat 91 = .ok (.if_icmp .ge 65, 3) := by decide +kernel
theorem dX9_sat_94 : decode cX9_sat 94 = .ok (.aload_n 0, 1) := by decide +kernel
theorem dX9_sat_95 : decode cX9_sat 95 = .ok (.getfield 29, 3) := by decide +kernel
theorem dX9_sat_98 : decode cX9_sat 98 = .ok (.getfield 223, 3) := by decide +kernel
theorem dX9_sat_101 : decode cX9_sat 101 = .ok (.iload_n 1, 1) := by decide +kernel
theorem dX9_sat_102 : decode cX9_sat 102 = .ok (.iload 9, 2) := by decide +kernel
theorem dX9_sat_104 : decode cX9_sat 104 = .ok (.iload_n 2, 1) := by decide +kernel
theorem dX9_sat_105 : decode cX9_sat 105 = .ok (.invokevirtual 135, 3) := by decide +kernel
theorem dX9_sat_108 : decode cX9_sat 108 = .ok (.aload_n 0, 1) := by decide +kernel
theorem dX9_sat_109 : decode cX9_sat 109 = .ok (.getfield 29, 3) := by decide +kernel
theorem dX9_sat_112 : decode cX9_sat 112 = .ok (.aload_n 0, 1) := by decide +kernel
theorem dX9_sat_113 : decode cX9_sat 113 = .ok (.getfield 19, 3) := by decide +kernel
theorem dX9_sat_116 : decode cX9_sat 116 = .ok (.invokevirtual 252, 3) := by decide +kernel
theorem dX9_sat_119 : decode cX9_sat 119 = .ok (.aload_n 0, 1) := by decide +kernel
theorem dX9_sat_120 : decode cX9_sat 120 = .ok (.getfield 50, 3) := by decide +kernel
theorem dX9_sat_123 : decode cX9_sat 123 = .ok (.iload_n 3, 1) := by decide +kernel
theorem dX9_sat_124 : decode cX9_sat 124 = .ok (.aaload, 1) := by decide +kernel
theorem dX9_sat_125 : decode cX9_sat 125 = .ok (.iload 5, 2) := by decide +kernel
theorem dX9_sat_127 : decode cX9_sat 127 = .ok (.aload_n 0, 1) := by decide +kernel
theorem dX9_sat_128 : decode cX9_sat 128 = .ok (.getfield 29, 3) := by decide +kernel
theorem dX9_sat_131 : decode cX9_sat 131 = .ok (.getfield 255, 3) := by decide +kernel
theorem dX9_sat_134 : decode cX9_sat 134 = .ok (.invokevirtual 256, 3) := by decide +kernel
theorem dX9_sat_137 : decode cX9_sat 137 = .ok (.ifCond .eq 13, 3) := by decide +kernel
theorem dX9_sat_140 : decode cX9_sat 140 = .ok (.lload 7, 2) := by decide +kernel
theorem dX9_sat_142 : decode cX9_sat 142 = .ok (.iload 9, 2) := by decide +kernel
theorem dX9_sat_144 : decode cX9_sat 144 = .ok (.invokestatic 104, 3) := by decide +kernel
theorem dX9_sat_147 : decode cX9_sat 147 = .ok (.lor, 1) := by decide +kernel
theorem dX9_sat_148 : decode cX9_sat 148 = .ok (.lstore 7, 2) := by decide +kernel
theorem dX9_sat_150 : decode cX9_sat 150 = .ok (.iinc 9 1, 3) := by decide +kernel
theorem dX9_sat_153 : decode cX9_sat 153 = .ok (.goto (-66), 3) := by decide +kernel
theorem dX9_sat_156 : decode cX9_sat 156 = .ok (.lload 7, 2) := by decide +kernel
theorem dX9_sat_158 : decode cX9_sat 158 = .ok (.lreturn, 1) := by decide +kernel
set_option maxRecDepth 20000 in
theorem ggX9_film_X9_isBelow : GoodIn wsX9_film wsX9_isBelow := goodIn_r _ [10] (by decide +kernel) (by decide +kernel)
set_option maxRecDepth 20000 in
theorem gX9_film_X9_isBelow : GoodIn wsX9_film (va_wsS RX9 118 yX9_isBelow wsX9_isBelow) := goodIn_app (goodIn_of _ (by decide +kernel)) ggX9_film_X9_isBelow
set_option maxRecDepth 20000 in
theorem ggX9_film_X6_refusal : GoodIn wsX9_film wsX6_refusal := goodIn_r _ [15, 16, 17, 18, 19, 20, 14, 21, 22, 38, 39, 40, 41] (by decide +kernel) (by decide +kernel)
set_option maxRecDepth 20000 in
theorem gX9_film_X6_refusal : GoodIn wsX9_film (wsV RX9 249 RX6 yX6_refusal wsX6_refusal) := goodIn_app (goodIn_of _ (by decide +kernel)) ggX9_film_X6_refusal
theorem dX9_film_0 : decode cX9_film 0 = .ok (.iload_n 1, 1) := by decide +kernel
theorem dX9_film_1 : decode cX9_film 1 = .ok (.iconst 4, 1) := by decide +kernel
theorem dX9_film_2 : decode cX9_film 2 = .ok (.invokestatic 118, 3) := by decide +kernel
theorem dX9_film_5 : decode cX9_film 5 = .ok (.ifCond .eq 11, 3) := by decide +kernel
theorem dX9_film_8 : decode cX9_film 8 = .ok (.iload_n 2, 1) := by decide +kernel
theorem dX9_film_9 : decode cX9_film 9 = .ok (.iconst 3, 1) := by decide +kernel
theorem dX9_film_10 : decode cX9_film 10 = .ok (.invokestatic 118, 3) := by decide +kernel
theorem dX9_film_13 : decode cX9_film 13 = .ok (.ifCond .ne 5, 3) := by decide +kernel
theorem dX9_film_16 : decode cX9_film 16 = .ok (.iconst (-1), 1) := by decide +kernel
theorem dX9_film_17 : decode cX9_film 17 = .ok (.ireturn, 1) := by decide +kernel
theorem dX9_film_18 : decode cX9_film 18 = .ok (.aload_n 0, 1) := by decide +kernel
theorem dX9_film_19 : decode cX9_film 19 = .ok (.getfield 19, 3) := by decide +kernel
theorem dX9_film_22 : decode cX9_film 22 = .ok (.getfield 69, 3) := by decide +kernel
theorem dX9_film_25 : decode cX9_film 25 = .ok (.astore 4, 2) := by decide +kernel
theorem dX9_film_27 : decode cX9_film 27 = .ok (.aload_n 0, 1) := by decide +kernel
theorem dX9_film_28 : decode cX9_film 28 = .ok (.getfield 50, 3) := by decide +kernel
theorem dX9_film_31 : decode cX9_film 31 = .ok (.iload_n 1, 1) := by decide +kernel
theorem dX9_film_32 : decode cX9_film 32 = .ok (.aaload, 1) := by decide +kernel
theorem dX9_film_33 : decode cX9_film 33 = .ok (.iload_n 2, 1) := by decide +kernel
theorem dX9_film_34 : decode cX9_film 34 = .ok (.iload_n 3, 1) := by decide +kernel
theorem dX9_film_35 : decode cX9_film 35 = .ok (.aload 4, 2) := by decide +kernel
theorem dX9_film_37 : decode cX9_film 37 = .ok (.getfield 110, 3) := by decide +kernel
theorem dX9_film_40 : decode cX9_film 40 = .ok (.invokevirtual 249, 3) := by decide +kernel
theorem dX9_film_43 : decode cX9_film 43 = .ok (.istore 5, 2) := by decide +kernel
theorem dX9_film_45 : decode cX9_film 45 = .ok (.iload 5, 2) := by decide +kernel
theorem dX9_film_47 : decode cX9_film 47 = .ok (.ifCond .eq 6, 3) := by decide +kernel
theorem dX9_film_50 : decode cX9_film 50 = .ok (.iload 5, 2) := by decide +kernel
theorem dX9_film_52 : decode cX9_film 52 = .ok (.ireturn, 1) := by decide +kernel
theorem dX9_film_53 : decode cX9_film 53 = .ok (.iconst 0, 1) := by decide +kernel
theorem dX9_film_54 : decode cX9_film 54 = .ok (.istore 6, 2) := by decide +kernel
theorem dX9_film_56 : decode cX9_film 56 = .ok (.iload 6, 2) := by decide +kernel
theorem dX9_film_58 : decode cX9_film 58 = .ok (.aload 4, 2) := by decide +kernel
theorem dX9_film_60 : decode cX9_film 60 = .ok (.getfield 110, 3) := by decide +kernel
theorem dX9_film_63 : decode cX9_film 63 = .ok (.if_icmp .ge 32, 3) := by decide +kernel
theorem dX9_film_66 : decode cX9_film 66 = .ok (.aload_n 0, 1) := by decide +kernel
theorem dX9_film_67 : decode cX9_film 67 = .ok (.getfield 50, 3) := by decide +kernel
theorem dX9_film_70 : decode cX9_film 70 = .ok (.iload_n 1, 1) := by decide +kernel
theorem dX9_film_71 : decode cX9_film 71 = .ok (.aaload, 1) := by decide +kernel
theorem dX9_film_72 : decode cX9_film 72 = .ok (.getfield 260, 3) := by decide +kernel
theorem dX9_film_75 : decode cX9_film 75 = .ok (.iload_n 3, 1) := by decide +kernel
theorem dX9_film_76 : decode cX9_film 76 = .ok (.iload 6, 2) := by decide +kernel
theorem dX9_film_78 : decode cX9_film 78 = .ok (.iadd, 1) := by decide +kernel
theorem dX9_film_79 : decode cX9_film 79 = .ok (.aload 4, 2) := by decide +kernel
theorem dX9_film_81 : decode cX9_film 81 = .ok (.getfield 114, 3) := by decide +kernel
theorem dX9_film_84 : decode cX9_film 84 = .ok (.iload 6, 2) := by decide +kernel
theorem dX9_film_86 : decode cX9_film 86 = .ok (.iaload, 1) := by decide +kernel
theorem dX9_film_87 : decode cX9_film 87 = .ok (.i2l, 1) := by decide +kernel
theorem dX9_film_88 : decode cX9_film 88 = .ok (.lastore, 1) := by decide +kernel
theorem dX9_film_89 : decode cX9_film 89 = .ok (.iinc 6 1, 3) := by decide +kernel
theorem dX9_film_92 : decode cX9_film 92 = .ok (.goto (-36), 3) := by decide +kernel
theorem dX9_film_95 : decode cX9_film 95 = .ok (.aload 4, 2) := by decide +kernel
theorem dX9_film_97 : decode cX9_film 97 = .ok (.getfield 110, 3) := by decide +kernel
theorem dX9_film_100 : decode cX9_film 100 = .ok (.ireturn, 1) := by decide +kernel
set_option maxRecDepth 20000 in
theorem ggX9_sheet_X9_isBelow : GoodIn wsX9_sheet wsX9_isBelow := goodIn_r _ [5] (by decide +kernel) (by decide +kernel)
set_option maxRecDepth 20000 in
theorem gX9_sheet_X9_isBelow : GoodIn wsX9_sheet (va_wsS RX9 118 yX9_isBelow wsX9_isBelow) := goodIn_app (goodIn_of _ (by decide +kernel)) ggX9_sheet_X9_isBelow
set_option maxRecDepth 20000 in
theorem ggX9_sheet_X6_start : GoodIn wsX9_sheet wsX6_start := goodIn_r _ [10, 11, 12, 13, 14, 23, 24, 25, 26] (by decide +kernel) (by decide +kernel)
set_option maxRecDepth 20000 in
theorem gX9_sheet_X6_start : GoodIn wsX9_sheet (wsV RX9 264 RX6 yX6_start wsX6_start) := goodIn_app (goodIn_of _ (by decide +kernel)) ggX9_sheet_X6_start
theorem dX9_sheet_0 : decode cX9_sheet 0 = .ok (.iload_n 1, 1) := by decide +kernel
theorem dX9_sheet_1 : decode cX9_sheet 1 = .ok (.iconst 4, 1) := by decide +kernel
theorem dX9_sheet_2 : decode cX9_sheet 2 = .ok (.invokestatic 118, 3) := by decide +kernel
theorem dX9_sheet_5 : decode cX9_sheet 5 = .ok (.ifCond .eq 17, 3) := by decide +kernel
theorem dX9_sheet_8 : decode cX9_sheet 8 = .ok (.iload_n 2, 1) := by decide +kernel
theorem dX9_sheet_9 : decode cX9_sheet 9 = .ok (.iconst 3, 1) := by decide +kernel
theorem dX9_sheet_10 : decode cX9_sheet 10 = .ok (.invokestatic 118, 3) := by decide +kernel
theorem dX9_sheet_13 : decode cX9_sheet 13 = .ok (.ifCond .eq 9, 3) := by decide +kernel
theorem dX9_sheet_16 : decode cX9_sheet 16 = .ok (.iload_n 3, 1) := by decide +kernel
theorem dX9_sheet_17 : decode cX9_sheet 17 = .ok (.bipush 16, 2) := by decide +kernel
theorem dX9_sheet_19 : decode cX9_sheet 19 = .ok (.if_icmp .le 5, 3) := by decide +kernel
theorem dX9_sheet_22 : decode cX9_sheet 22 = .ok (.iconst (-1), 1) := by decide +kernel
theorem dX9_sheet_23 : decode cX9_sheet 23 = .ok (.ireturn, 1) := by decide +kernel
theorem dX9_sheet_24 : decode cX9_sheet 24 = .ok (.iload_n 3, 1) := by decide +kernel
theorem dX9_sheet_25 : decode cX9_sheet 25 = .ok (.ifCond .ge 6, 3) := by decide +kernel
theorem dX9_sheet_28 : decode cX9_sheet 28 = .ok (.bipush (-14), 2) := by decide +kernel
theorem dX9_sheet_30 : decode cX9_sheet 30 = .ok (.ireturn, 1) := by decide +kernel
theorem dX9_sheet_31 : decode cX9_sheet 31 = .ok (.aload_n 0, 1) := by decide +kernel
theorem dX9_sheet_32 : decode cX9_sheet 32 = .ok (.getfield 50, 3) := by decide +kernel
theorem dX9_sheet_35 : decode cX9_sheet 35 = .ok (.iload_n 1, 1) := by decide +kernel
theorem dX9_sheet_36 : decode cX9_sheet 36 = .ok (.aaload, 1) := by decide +kernel
theorem dX9_sheet_37 : decode cX9_sheet 37 = .ok (.iload_n 2, 1) := by decide +kernel
theorem dX9_sheet_38 : decode cX9_sheet 38 = .ok (.iload_n 3, 1) := by decide +kernel
theorem dX9_sheet_39 : decode cX9_sheet 39 = .ok (.invokevirtual 264, 3) := by decide +kernel
theorem dX9_sheet_42 : decode cX9_sheet 42 = .ok (.iload_n 3, 1) := by decide +kernel
theorem dX9_sheet_43 : decode cX9_sheet 43 = .ok (.ireturn, 1) := by decide +kernel
set_option maxRecDepth 20000 in
theorem ggX9_drop_X9_isBelow : GoodIn wsX9_drop wsX9_isBelow := goodIn_r _ [7] (by decide +kernel) (by decide +kernel)
set_option maxRecDepth 20000 in
theorem gX9_drop_X9_isBelow : GoodIn wsX9_drop (va_wsS RX9 118 yX9_isBelow wsX9_isBelow) := goodIn_app (goodIn_of _ (by decide +kernel)) ggX9_drop_X9_isBelow
theorem dX9_drop_0 : decode cX9_drop 0 = .ok (.iload_n 1, 1) := by decide +kernel
theorem dX9_drop_1 : decode cX9_drop 1 = .ok (.iconst 4, 1) := by decide +kernel
theorem dX9_drop_2 : decode cX9_drop 2 = .ok (.invokestatic 118, 3) := by decide +kernel
theorem dX9_drop_5 : decode cX9_drop 5 = .ok (.ifCond .ne 5, 3) := by decide +kernel
theorem dX9_drop_8 : decode cX9_drop 8 = .ok (.iconst (-1), 1) := by decide +kernel
theorem dX9_drop_9 : decode cX9_drop 9 = .ok (.ireturn, 1) := by decide +kernel
theorem dX9_drop_10 : decode cX9_drop 10 = .ok (.aload_n 0, 1) := by decide +kernel
theorem dX9_drop_11 : decode cX9_drop 11 = .ok (.getfield 50, 3) := by decide +kernel
theorem dX9_drop_14 : decode cX9_drop 14 = .ok (.iload_n 1, 1) := by decide +kernel
theorem dX9_drop_15 : decode cX9_drop 15 = .ok (.aaload, 1) := by decide +kernel
theorem dX9_drop_16 : decode cX9_drop 16 = .ok (.getfield 268, 3) := by decide +kernel
theorem dX9_drop_19 : decode cX9_drop 19 = .ok (.ifCond .ne 6, 3) := by decide +kernel
theorem dX9_drop_22 : decode cX9_drop 22 = .ok (.bipush (-11), 2) := by decide +kernel
theorem dX9_drop_24 : decode cX9_drop 24 = .ok (.ireturn, 1) := by decide +kernel
theorem dX9_drop_25 : decode cX9_drop 25 = .ok (.aload_n 0, 1) := by decide +kernel
theorem dX9_drop_26 : decode cX9_drop 26 = .ok (.getfield 50, 3) := by decide +kernel
theorem dX9_drop_29 : decode cX9_drop 29 = .ok (.iload_n 1, 1) := by decide +kernel
theorem dX9_drop_30 : decode cX9_drop 30 = .ok (.aaload, 1) := by decide +kernel
theorem dX9_drop_31 : decode cX9_drop 31 = .ok (.iconst 0, 1) := by decide +kernel
theorem dX9_drop_32 : decode cX9_drop 32 = .ok (.putfield 268, 3) := by decide +kernel
theorem dX9_drop_35 : decode cX9_drop 35 = .ok (.aload_n 0, 1) := by decide +kernel
theorem dX9_drop_36 : decode cX9_drop 36 = .ok (.getfield 50, 3) := by decide +kernel
theorem dX9_drop_39 : decode cX9_drop 39 = .ok (.iload_n 1, 1) := by decide +kernel
theorem dX9_drop_40 : decode cX9_drop 40 = .ok (.aaload, 1) := by decide +kernel
theorem dX9_drop_41 : decode cX9_drop 41 = .ok (.getfield 271, 3) := by decide +kernel
theorem dX9_drop_44 : decode cX9_drop 44 = .ok (.ireturn, 1) := by decide +kernel
set_option maxRecDepth 20000 in
theorem ggX9_item_X9_isBelow : GoodIn wsX9_item wsX9_isBelow := goodIn_r _ [5] (by decide +kernel) (by decide +kernel)
set_option maxRecDepth 20000 in
theorem gX9_item_X9_isBelow : GoodIn wsX9_item (va_wsS RX9 118 yX9_isBelow wsX9_isBelow) := goodIn_app (goodIn_of _ (by decide +kernel)) ggX9_item_X9_isBelow
set_option maxRecDepth 20000 in
theorem ggX9_item_X6_refusal : GoodIn wsX9_item wsX6_refusal := goodIn_r _ [10, 11, 12, 13, 14, 15, 9, 16, 17, 31, 32, 33, 34] (by decide +kernel) (by decide +kernel)
set_option maxRecDepth 20000 in
theorem gX9_item_X6_refusal : GoodIn wsX9_item (wsV RX9 249 RX6 yX6_refusal wsX6_refusal) := goodIn_app (goodIn_of _ (by decide +kernel)) ggX9_item_X6_refusal
set_option maxRecDepth 20000 in
theorem ggX9_item_X6_put : GoodIn wsX9_item wsX6_put := goodIn_r _ [21, 22, 12, 31, 32, 33, 34] (by decide +kernel) (by decide +kernel)
set_option maxRecDepth 20000 in
theorem gX9_item_X6_put : GoodIn wsX9_item (wsV RX9 272 RX6 yX6_put wsX6_put) := goodIn_app (goodIn_of _ (by decide +kernel)) ggX9_item_X6_put
theorem dX9_item_0 : decode cX9_item 0 = .ok (.iload_n 1, 1) := by decide +kernel
theorem dX9_item_1 : decode cX9_item 1 = .ok (.iconst 4, 1) := by decide +kernel
theorem dX9_item_2 : decode cX9_item 2 = .ok (.invokestatic 118, 3) := by decide +kernel
theorem dX9_item_5 : decode cX9_item 5 = .ok (.ifCond .eq 11, 3) := by decide +kernel
theorem dX9_item_8 : decode cX9_item 8 = .ok (.iload_n 2, 1) := by decide +kernel
theorem dX9_item_9 : decode cX9_item 9 = .ok (.iconst 3, 1) := by decide +kernel
theorem dX9_item_10 : decode cX9_item 10 = .ok (.invokestatic 118, 3) := by decide +kernel
theorem dX9_item_13 : decode cX9_item 13 = .ok (.ifCond .ne 5, 3) := by decide +kernel
theorem dX9_item_16 : decode cX9_item 16 = .ok (.iconst (-1), 1) := by decide +kernel
theorem dX9_item_17 : decode cX9_item 17 = .ok (.ireturn, 1) := by decide +kernel
theorem dX9_item_18 : decode cX9_item 18 = .ok (.aload_n 0, 1) := by decide +kernel
theorem dX9_item_19 : decode cX9_item 19 = .ok (.getfield 50, 3) := by decide +kernel
theorem dX9_item_22 : decode cX9_item 22 = .ok (.iload_n 1, 1) := by decide +kernel
theorem dX9_item_23 : decode cX9_item 23 = .ok (.aaload, 1) := by decide +kernel
theorem dX9_item_24 : decode cX9_item 24 = .ok (.iload_n 2, 1) := by decide +kernel
theorem dX9_item_25 : decode cX9_item 25 = .ok (.iload_n 3, 1) := by decide +kernel
theorem dX9_item_26 : decode cX9_item 26 = .ok (.iconst 1, 1) := by decide +kernel
theorem dX9_item_27 : decode cX9_item 27 = .ok (.invokevirtual 249, 3) := by decide +kernel
theorem dX9_item_30 : decode cX9_item 30 = .ok (.istore 6, 2) := by decide +kernel
theorem dX9_item_32 : decode cX9_item 32 = .ok (.iload 6, 2) := by decide +kernel
theorem dX9_item_34 : decode cX9_item 34 = .ok (.ifCond .eq 6, 3) := by decide +kernel
theorem dX9_item_37 : decode cX9_item 37 = .ok (.iload 6, 2) := by decide +kernel
theorem dX9_item_39 : decode cX9_item 39 = .ok (.ireturn, 1) := by decide +kernel
theorem dX9_item_40 : decode cX9_item 40 = .ok (.aload_n 0, 1) := by decide +kernel
theorem dX9_item_41 : decode cX9_item 41 = .ok (.getfield 50, 3) := by decide +kernel
theorem dX9_item_44 : decode cX9_item 44 = .ok (.iload_n 1, 1) := by decide +kernel
theorem dX9_item_45 : decode cX9_item 45 = .ok (.aaload, 1) := by decide +kernel
theorem dX9_item_46 : decode cX9_item 46 = .ok (.iload_n 3, 1) := by decide +kernel
theorem dX9_item_47 : decode cX9_item 47 = .ok (.lload 4, 2) := by decide +kernel
theorem dX9_item_49 : decode cX9_item 49 = .ok (.invokevirtual 272, 3) := by decide +kernel
theorem dX9_item_52 : decode cX9_item 52 = .ok (.iconst 1, 1) := by decide +kernel
theorem dX9_item_53 : decode cX9_item 53 = .ok (.ireturn, 1) := by decide +kernel
set_option maxRecDepth 20000 in
theorem ggX9_copy_X9_isBelow : GoodIn wsX9_copy wsX9_isBelow := goodIn_r _ [12] (by decide +kernel) (by decide +kernel)
set_option maxRecDepth 20000 in
theorem gX9_copy_X9_isBelow : GoodIn wsX9_copy (va_wsS RX9 118 yX9_isBelow wsX9_isBelow) := goodIn_app (goodIn_of _ (by decide +kernel)) ggX9_copy_X9_isBelow
set_option maxRecDepth 20000 in
theorem ggX9_copy_X6_spans : GoodIn wsX9_copy wsX6_spans := goodIn_r _ [17, 18, 27, 28, 29, 30] (by decide +kernel) (by decide +kernel)
set_option maxRecDepth 20000 in
theorem gX9_copy_X6_spans : GoodIn wsX9_copy (wsV RX9 279 RX6 yX6_spans wsX6_spans) := goodIn_app (goodIn_of _ (by decide +kernel)) ggX9_copy_X6_spans
theorem dX9_copy_0 : decode cX9_copy 0 = .ok (.iload_n 1, 1) := by decide +kernel
theorem dX9_copy_1 : decode cX9_copy 1 = .ok (.iconst 4, 1) := by decide +kernel
theorem dX9_copy_2 : decode cX9_copy 2 = .ok (.invokestatic 118, 3) := by decide +kernel
theorem dX9_copy_5 : decode cX9_copy 5 = .ok (.ifCond .eq 11, 3) := by decide +kernel
theorem dX9_copy_8 : decode cX9_copy 8 = .ok (.iload_n 3, 1) := by decide +kernel
theorem dX9_copy_9 : decode cX9_copy 9 = .ok (.iconst 4, 1) := by decide +kernel
theorem dX9_copy_10 : decode cX9_copy 10 = .ok (.invokestatic 118, 3) := by decide +kernel
theorem dX9_copy_13 : decode cX9_copy 13 = .ok (.ifCond .ne 5, 3) := by decide +kernel
theorem dX9_copy_16 : decode cX9_copy 16 = .ok (.iconst (-1), 1) := by decide +kernel
theorem dX9_copy_17 : decode cX9_copy 17 = .ok (.ireturn, 1) := by decide +kernel
theorem dX9_copy_18 : decode cX9_copy 18 = .ok (.aload_n 0, 1) := by decide +kernel
theorem dX9_copy_19 : decode cX9_copy 19 = .ok (.getfield 50, 3) := by decide +kernel
theorem dX9_copy_22 : decode cX9_copy 22 = .ok (.iload_n 1, 1) := by decide +kernel
theorem dX9_copy_23 : decode cX9_copy 23 = .ok (.aaload, 1) := by decide +kernel
theorem dX9_copy_24 : decode cX9_copy 24 = .ok (.astore 6, 2) := by decide +kernel
theorem dX9_copy_26 : decode cX9_copy 26 = .ok (.aload_n 0, 1) := by decide +kernel
theorem dX9_copy_27 : decode cX9_copy 27 = .ok (.getfield 50, 3) := by decide +kernel
theorem dX9_copy_30 : decode cX9_copy 30 = .ok (.iload_n 3, 1) := by decide +kernel
theorem dX9_copy_31 : decode cX9_copy 31 = .ok (.aaload, 1) := by decide +kernel
theorem dX9_copy_32 : decode cX9_copy 32 = .ok (.astore 7, 2) := by decide +kernel
theorem dX9_copy_34 : decode cX9_copy 34 = .ok (.aload 6, 2) := by decide +kernel
theorem dX9_copy_36 : decode cX9_copy 36 = .ok (.getfield 268, 3) := by decide +kernel
theorem dX9_copy_39 : decode cX9_copy 39 = .ok (.ifCond .eq 11, 3) := by decide +kernel
theorem dX9_copy_42 : decode cX9_copy 42 = .ok (.aload 7, 2) := by decide +kernel
theorem dX9_copy_44 : decode cX9_copy 44 = .ok (.getfield 268, 3) := by decide +kernel
theorem dX9_copy_47 : decode cX9_copy 47 = .ok (.ifCond .ne 6, 3) := by decide +kernel
theorem dX9_copy_50 : decode cX9_copy 50 = .ok (.bipush (-11), 2) := by decide +kernel
theorem dX9_copy_52 : decode cX9_copy 52 = .ok (.ireturn, 1) := by decide +kernel
theorem dX9_copy_53 : decode cX9_copy 53 = .ok (.aload 6, 2) := by decide +kernel
theorem dX9_copy_55 : decode cX9_copy 55 = .ok (.getfield 276, 3) := by decide +kernel
theorem dX9_copy_58 : decode cX9_copy 58 = .ok (.aload 7, 2) := by decide +kernel
theorem dX9_copy_60 : decode cX9_copy 60 = .ok (.getfield 276, 3) := by decide +kernel
theorem dX9_copy_63 : decode cX9_copy 63 = .ok (.if_icmp .eq 6, 3) := by decide +kernel
theorem dX9_copy_66 : decode cX9_copy 66 = .ok (.bipush (-12), 2) := by decide +kernel
theorem dX9_copy_68 : decode cX9_copy 68 = .ok (.ireturn, 1) := by decide +kernel
theorem dX9_copy_69 : decode cX9_copy 69 = .ok (.aload 6, 2) := by decide +kernel
theorem dX9_copy_71 : decode cX9_copy 71 = .ok (.iload_n 2, 1) := by decide +kernel
theorem dX9_copy_72 : decode cX9_copy 72 = .ok (.iload 5, 2) := by decide +kernel
theorem dX9_copy_74 : decode cX9_copy 74 = .ok (.invokevirtual 279, 3) := by decide +kernel
theorem dX9_copy_77 : decode cX9_copy 77 = .ok (.ifCond .eq 15, 3) := by decide +kernel
theorem dX9_copy_80 : decode cX9_copy 80 = .ok (.aload 7, 2) := by decide +kernel
theorem dX9_copy_82 : decode cX9_copy 82 = .ok (.iload 4, 2) := by decide +kernel
theorem dX9_copy_84 : decode cX9_copy 84 = .ok (.iload 5, 2) := by decide +kernel
theorem dX9_copy_86 : decode cX9_copy 86 = .ok (.invokevirtual 279, 3) := by decide +kernel
theorem dX9_copy_89 : decode cX9_copy 89 = .ok (.ifCond .ne 6, 3) := by decide +kernel
theorem dX9_copy_92 : decode cX9_copy 92 = .ok (.bipush (-13), 2) := by decide +kernel
theorem dX9_copy_94 : decode cX9_copy 94 = .ok (.ireturn, 1) := by decide +kernel
theorem dX9_copy_95 : decode cX9_copy 95 = .ok (.aload 6, 2) := by decide +kernel
theorem dX9_copy_97 : decode cX9_copy 97 = .ok (.getfield 260, 3) := by decide +kernel
theorem dX9_copy_100 : decode cX9_copy 100 = .ok (.iload_n 2, 1) := by decide +kernel
theorem dX9_copy_101 : decode cX9_copy 101 = .ok (.aload 7, 2) := by decide +kernel
theorem dX9_copy_103 : decode cX9_copy 103 = .ok (.getfield 260, 3) := by decide +kernel
theorem dX9_copy_106 : decode cX9_copy 106 = .ok (.iload 4, 2) := by decide +kernel
theorem dX9_copy_108 : decode cX9_copy 108 = .ok (.iload 5, 2) := by decide +kernel
theorem dX9_copy_110 : decode cX9_copy 110 = .ok (.invokestatic 282, 3) := by decide +kernel
theorem dX9_copy_113 : decode cX9_copy 113 = .ok (.iload 5, 2) := by decide +kernel
theorem dX9_copy_115 : decode cX9_copy 115 = .ok (.ireturn, 1) := by decide +kernel
theorem dX9_isBelow_0 : decode cX9_isBelow 0 = .ok (.iload_n 0, 1) := by decide +kernel
theorem dX9_isBelow_1 : decode cX9_isBelow 1 = .ok (.ifCond .lt 12, 3) := by decide +kernel
theorem dX9_isBelow_4 : decode cX9_isBelow 4 = .ok (.iload_n 0, 1) := by decide +kernel
theorem dX9_isBelow_5 : decode cX9_isBelow 5 = .ok (.iload_n 1, 1) := by decide +kernel
theorem dX9_isBelow_6 : decode cX9_isBelow 6 = .ok (.if_icmp .ge 7, 3) := by decide +kernel
theorem dX9_isBelow_9 : decode cX9_isBelow 9 = .ok (.iconst 1, 1) := by decide +kernel
theorem dX9_isBelow_10 : decode cX9_isBelow 10 = .ok (.goto 4, 3) := by decide +kernel
theorem dX9_isBelow_13 : decode cX9_isBelow 13 = .ok (.iconst 0, 1) := by decide +kernel
theorem dX9_isBelow_14 : decode cX9_isBelow 14 = .ok (.ireturn, 1) := by decide +kernel
set_option maxRecDepth 20000 in
theorem ggX9_isCell_X9_isBelow : GoodIn wsX9_isCell wsX9_isBelow := goodIn_r _ [4] (by decide +kernel) (by decide +kernel)
set_option maxRecDepth 20000 in
theorem gX9_isCell_X9_isBelow : GoodIn wsX9_isCell (va_wsS RX9 118 yX9_isBelow wsX9_isBelow) := goodIn_app (goodIn_of _ (by decide +kernel)) ggX9_isCell_X9_isBelow
theorem dX9_isCell_0 : decode cX9_isCell 0 = .ok (.iload_n 0, 1) := by decide +kernel
theorem dX9_isCell_1 : decode cX9_isCell 1 = .ok (.bipush 36, 2) := by decide +kernel
theorem dX9_isCell_3 : decode cX9_isCell 3 = .ok (.invokestatic 118, 3) := by decide +kernel
theorem dX9_isCell_6 : decode cX9_isCell 6 = .ok (.ireturn, 1) := by decide +kernel
theorem dX9_isStay_0 : decode cX9_isStay 0 = .ok (.iload_n 0, 1) := by decide +kernel
theorem dX9_isStay_1 : decode cX9_isStay 1 = .ok (.iconst 1, 1) := by decide +kernel
theorem dX9_isStay_2 : decode cX9_isStay 2 = .ok (.if_icmp .lt 13, 3) := by decide +kernel
theorem dX9_isStay_5 : decode cX9_isStay 5 = .ok (.iload_n 0, 1) := by decide +kernel
theorem dX9_isStay_6 : decode cX9_isStay 6 = .ok (.bipush 99, 2) := by decide +kernel
theorem dX9_isStay_8 : decode cX9_isStay 8 = .ok (.if_icmp .gt 7, 3) := by decide +kernel
theorem dX9_isStay_11 : decode cX9_isStay 11 = .ok (.iconst 1, 1) := by decide +kernel
theorem dX9_isStay_12 : decode cX9_isStay 12 = .ok (.goto 4, 3) := by decide +kernel
theorem dX9_isStay_15 : decode cX9_isStay 15 = .ok (.iconst 0, 1) := by decide +kernel
theorem dX9_isStay_16 : decode cX9_isStay 16 = .ok (.ireturn, 1) := by decide +kernel
set_option maxRecDepth 20000 in
theorem ggX9_isTuft_X9_isBelow : GoodIn wsX9_isTuft wsX9_isBelow := goodIn_r _ [7] (by decide +kernel) (by decide +kernel)
set_option maxRecDepth 20000 in
theorem gX9_isTuft_X9_isBelow : GoodIn wsX9_isTuft (va_wsS RX9 118 yX9_isBelow wsX9_isBelow) := goodIn_app (goodIn_of _ (by decide +kernel)) ggX9_isTuft_X9_isBelow
theorem dX9_isTuft_0 : decode cX9_isTuft 0 = .ok (.iload_n 1, 1) := by decide +kernel
theorem dX9_isTuft_1 : decode cX9_isTuft 1 = .ok (.aload_n 0, 1) := by decide +kernel
theorem dX9_isTuft_2 : decode cX9_isTuft 2 = .ok (.getfield 19, 3) := by decide +kernel
theorem dX9_isTuft_5 : decode cX9_isTuft 5 = .ok (.getfield 69, 3) := by decide +kernel
theorem dX9_isTuft_8 : decode cX9_isTuft 8 = .ok (.getfield 110, 3) := by decide +kernel
theorem dX9_isTuft_11 : decode cX9_isTuft 11 = .ok (.invokestatic 118, 3) := by decide +kernel
theorem dX9_isTuft_14 : decode cX9_isTuft 14 = .ok (.ireturn, 1) := by decide +kernel
set_option maxRecDepth 20000 in
theorem ggX9_isPerson_X9_isBelow : GoodIn wsX9_isPerson wsX9_isBelow := goodIn_r _ [7] (by decide +kernel) (by decide +kernel)
set_option maxRecDepth 20000 in
theorem gX9_isPerson_X9_isBelow : GoodIn wsX9_isPerson (va_wsS RX9 118 yX9_isBelow wsX9_isBelow) := goodIn_app (goodIn_of _ (by decide +kernel)) ggX9_isPerson_X9_isBelow
theorem dX9_isPerson_0 : decode cX9_isPerson 0 = .ok (.iload_n 1, 1) := by decide +kernel
theorem dX9_isPerson_1 : decode cX9_isPerson 1 = .ok (.aload_n 0, 1) := by decide +kernel
theorem dX9_isPerson_2 : decode cX9_isPerson 2 = .ok (.getfield 19, 3) := by decide +kernel
theorem dX9_isPerson_5 : decode cX9_isPerson 5 = .ok (.getfield 87, 3) := by decide +kernel
theorem dX9_isPerson_8 : decode cX9_isPerson 8 = .ok (.getfield 122, 3) := by decide +kernel
theorem dX9_isPerson_11 : decode cX9_isPerson 11 = .ok (.invokestatic 118, 3) := by decide +kernel
theorem dX9_isPerson_14 : decode cX9_isPerson 14 = .ok (.ireturn, 1) := by decide +kernel
theorem dX9_bit_0 : decode cX9_bit 0 = .ok (.lconst 1, 1) := by decide +kernel
theorem dX9_bit_1 : decode cX9_bit 1 = .ok (.iload_n 0, 1) := by decide +kernel
theorem dX9_bit_2 : decode cX9_bit 2 = .ok (.lshl, 1) := by decide +kernel
theorem dX9_bit_3 : decode cX9_bit 3 = .ok (.lreturn, 1) := by decide +kernel
theorem dX9_apart_0 : decode cX9_apart 0 = .ok (.iload_n 0, 1) := by decide +kernel
theorem dX9_apart_1 : decode cX9_apart 1 = .ok (.bipush 6, 2) := by decide +kernel
theorem dX9_apart_3 : decode cX9_apart 3 = .ok (.idiv, 1) := by decide +kernel
theorem dX9_apart_4 : decode cX9_apart 4 = .ok (.iload_n 1, 1) := by decide +kernel
theorem dX9_apart_5 : decode cX9_apart 5 = .ok (.bipush 6, 2) := by decide +kernel
theorem dX9_apart_7 : decode cX9_apart 7 = .ok (.idiv, 1) := by decide +kernel
theorem dX9_apart_8 : decode cX9_apart 8 = .ok (.isub, 1) := by decide +kernel
theorem dX9_apart_9 : decode cX9_apart 9 = .ok (.istore_n 2, 1) := by decide +kernel
theorem dX9_apart_10 : decode cX9_apart 10 = .ok (.iload_n 0, 1) := by decide +kernel
theorem dX9_apart_11 : decode cX9_apart 11 = .ok (.bipush 6, 2) := by decide +kernel
theorem dX9_apart_13 : decode cX9_apart 13 = .ok (.irem, 1) := by decide +kernel
theorem dX9_apart_14 : decode cX9_apart 14 = .ok (.iload_n 1, 1) := by decide +kernel
theorem dX9_apart_15 : decode cX9_apart 15 = .ok (.bipush 6, 2) := by decide +kernel
theorem dX9_apart_17 : decode cX9_apart 17 = .ok (.irem, 1) := by decide +kernel
theorem dX9_apart_18 : decode cX9_apart 18 = .ok (.isub, 1) := by decide +kernel
theorem dX9_apart_19 : decode cX9_apart 19 = .ok (.istore_n 3, 1) := by decide +kernel
theorem dX9_apart_20 : decode cX9_apart 20 = .ok (.iload_n 2, 1) := by decide +kernel
theorem dX9_apart_21 : decode cX9_apart 21 = .ok (.ifCond .ge 8, 3) := by decide +kernel
theorem dX9_apart_24 : decode cX9_apart 24 = .ok (.iload_n 2, 1) := by decide +kernel
theorem dX9_apart_25 : decode cX9_apart 25 = .ok (.ineg, 1) := by decide +kernel
theorem dX9_apart_26 : decode cX9_apart 26 = .ok (.goto 4, 3) := by decide +kernel
theorem dX9_apart_29 : decode cX9_apart 29 = .ok (.iload_n 2, 1) := by decide +kernel
theorem dX9_apart_30 : decode cX9_apart 30 = .ok (.iload_n 3, 1) := by decide +kernel
theorem dX9_apart_31 : decode cX9_apart 31 = .ok (.ifCond .ge 8, 3) := by decide +kernel
theorem dX9_apart_34 : decode cX9_apart 34 = .ok (.iload_n 3, 1) := by decide +kernel
theorem dX9_apart_35 : decode cX9_apart 35 = .ok (.ineg, 1) := by decide +kernel
theorem dX9_apart_36 : decode cX9_apart 36 = .ok (.goto 4, 3) := by decide +kernel
theorem dX9_apart_39 : decode cX9_apart 39 = .ok (.iload_n 3, 1) := by decide +kernel
theorem dX9_apart_40 : decode cX9_apart 40 = .ok (.iadd, 1) := by decide +kernel
theorem dX9_apart_41 : decode cX9_apart 41 = .ok (.ireturn, 1) := by decide +kernel
theorem dX9_beside_0 : decode cX9_beside 0 = .ok (.lload_n 0, 1) := by decide +kernel
theorem dX9_beside_1 : decode cX9_beside 1 = .ok (.bipush 6, 2) := by decide +kernel
theorem dX9_beside_3 : decode cX9_beside 3 = .ok (.lshl, 1) := by decide +kernel
theorem dX9_beside_4 : decode cX9_beside 4 = .ok (.lload_n 0, 1) := by decide +kernel
theorem dX9_beside_5 : decode cX9_beside 5 = .ok (.bipush 6, 2) := by decide +kernel
theorem dX9_beside_7 : decode cX9_beside 7 = .ok (.lushr, 1) := by decide +kernel
theorem dX9_beside_8 : decode cX9_beside 8 = .ok (.lor, 1) := by decide +kernel
theorem dX9_beside_9 : decode cX9_beside 9 = .ok (.lstore_n 2, 1) := by decide +kernel
theorem dX9_beside_10 : decode cX9_beside 10 = .ok (.lload_n 0, 1) := by decide +kernel
theorem dX9_beside_11 : decode cX9_beside 11 = .ok (.ldc2_w 288, 3) := by decide +kernel
theorem dX9_beside_14 : decode cX9_beside 14 = .ok (.land, 1) := by decide +kernel
theorem dX9_beside_15 : decode cX9_beside 15 = .ok (.iconst 1, 1) := by decide +kernel
theorem dX9_beside_16 : decode cX9_beside 16 = .ok (.lshl, 1) := by decide +kernel
theorem dX9_beside_17 : decode cX9_beside 17 = .ok (.lload_n 0, 1) := by decide +kernel
theorem dX9_beside_18 : decode cX9_beside 18 = .ok (.ldc2_w 290, 3) := by decide +kernel
theorem dX9_beside_21 : decode cX9_beside 21 = .ok (.land, 1) := by decide +kernel
theorem dX9_beside_22 : decode cX9_beside 22 = .ok (.iconst 1, 1) := by decide +kernel
theorem dX9_beside_23 : decode cX9_beside 23 = .ok (.lushr, 1) := by decide +kernel
theorem dX9_beside_24 : decode cX9_beside 24 = .ok (.lor, 1) := by decide +kernel
theorem dX9_beside_25 : decode cX9_beside 25 = .ok (.lstore 4, 2) := by decide +kernel
theorem dX9_beside_27 : decode cX9_beside 27 = .ok (.lload_n 2, 1) := by decide +kernel
theorem dX9_beside_28 : decode cX9_beside 28 = .ok (.lload 4, 2) := by decide +kernel
theorem dX9_beside_30 : decode cX9_beside 30 = .ok (.lor, 1) := by decide +kernel
theorem dX9_beside_31 : decode cX9_beside 31 = .ok (.ldc2_w 292, 3) := by decide +kernel
theorem dX9_beside_34 : decode cX9_beside 34 = .ok (.land, 1) := by decide +kernel
theorem dX9_beside_35 : decode cX9_beside 35 = .ok (.lreturn, 1) := by decide +kernel
theorem dX9_neighbour_0 : decode cX9_neighbour 0 = .ok (.iload_n 1, 1) := by decide +kernel
theorem dX9_neighbour_1 : decode cX9_neighbour 1 = .ok (.tableswitch 73 0 2 #[27, 42, 57], 27) := by decide +kernel
theorem dX9_neighbour_28 : decode cX9_neighbour 28 = .ok (.iload_n 0, 1) := by decide +kernel
theorem dX9_neighbour_29 : decode cX9_neighbour 29 = .ok (.bipush 6, 2) := by decide +kernel
theorem dX9_neighbour_31 : decode cX9_neighbour 31 = .ok (.if_icmp .lt 10, 3) := by decide +kernel
theorem dX9_neighbour_34 : decode cX9_neighbour 34 = .ok (.iload_n 0, 1) := by decide +kernel
theorem dX9_neighbour_35 : decode cX9_neighbour 35 = .ok (.bipush 6, 2) := by decide +kernel
theorem dX9_neighbour_37 : decode cX9_neighbour 37 = .ok (.isub, 1) := by decide +kernel
theorem dX9_neighbour_38 : decode cX9_neighbour 38 = .ok (.goto 4, 3) := by decide +kernel
theorem dX9_neighbour_41 : decode cX9_neighbour 41 = .ok (.iconst (-1), 1) := by decide +kernel
theorem dX9_neighbour_42 : decode cX9_neighbour 42 = .ok (.ireturn, 1) := by decide +kernel
theorem dX9_neighbour_43 : decode cX9_neighbour 43 = .ok (.iload_n 0, 1) := by decide +kernel
theorem dX9_neighbour_44 : decode cX9_neighbour 44 = .ok (.bipush 6, 2) := by decide +kernel
theorem dX9_neighbour_46 : decode cX9_neighbour 46 = .ok (.irem, 1) := by decide +kernel
theorem dX9_neighbour_47 : decode cX9_neighbour 47 = .ok (.ifCond .le 9, 3) := by decide +kernel
theorem dX9_neighbour_50 : decode cX9_neighbour 50 = .ok (.iload_n 0, 1) := by decide +kernel
theorem dX9_neighbour_51 : decode cX9_neighbour 51 = .ok (.iconst 1, 1) := by decide +kernel
theorem dX9_neighbour_52 : decode cX9_neighbour 52 = .ok (.isub, 1) := by decide +kernel
theorem dX9_neighbour_53 : decode cX9_neighbour 53 = .ok (.goto 4, 3) := by decide +kernel
theorem dX9_neighbour_56 : decode cX9_neighbour 56 = .ok (.iconst (-1), 1) := by decide +kernel
theorem dX9_neighbour_57 : decode cX9_neighbour 57 = .ok (.ireturn, 1) := by decide +kernel
theorem dX9_neighbour_58 : decode cX9_neighbour 58 = .ok (.iload_n 0, 1) := by decide +kernel
theorem dX9_neighbour_59 : decode cX9_neighbour 59 = .ok (.bipush 6, 2) := by decide +kernel
theorem dX9_neighbour_61 : decode cX9_neighbour 61 = .ok (.irem, 1) := by decide +kernel
theorem dX9_neighbour_62 : decode cX9_neighbour 62 = .ok (.iconst 5, 1) := by decide +kernel
theorem dX9_neighbour_63 : decode cX9_neighbour 63 = .ok (.if_icmp .ge 9, 3) := by decide +kernel
theorem dX9_neighbour_66 : decode cX9_neighbour 66 = .ok (.iload_n 0, 1) := by decide +kernel
theorem dX9_neighbour_67 : decode cX9_neighbour 67 = .ok (.iconst 1, 1) := by decide +kernel
theorem dX9_neighbour_68 : decode cX9_neighbour 68 = .ok (.iadd, 1) := by decide +kernel
theorem dX9_neighbour_69 : decode cX9_neighbour 69 = .ok (.goto 4, 3) := by decide +kernel
theorem dX9_neighbour_72 : decode cX9_neighbour 72 = .ok (.iconst (-1), 1) := by decide +kernel
theorem dX9_neighbour_73 : decode cX9_neighbour 73 = .ok (.ireturn, 1) := by decide +kernel
theorem dX9_neighbour_74 : decode cX9_neighbour 74 = .ok (.iload_n 0, 1) := by decide +kernel
theorem dX9_neighbour_75 : decode cX9_neighbour 75 = .ok (.bipush 30, 2) := by decide +kernel
theorem dX9_neighbour_77 : decode cX9_neighbour 77 = .ok (.if_icmp .ge 10, 3) := by decide +kernel
theorem dX9_neighbour_80 : decode cX9_neighbour 80 = .ok (.iload_n 0, 1) := by decide +kernel
theorem dX9_neighbour_81 : decode cX9_neighbour 81 = .ok (.bipush 6, 2) := by decide +kernel
theorem dX9_neighbour_83 : decode cX9_neighbour 83 = .ok (.iadd, 1) := by decide +kernel
theorem dX9_neighbour_84 : decode cX9_neighbour 84 = .ok (.goto 4, 3) := by decide +kernel
theorem dX9_neighbour_87 : decode cX9_neighbour 87 = .ok (.iconst (-1), 1) := by decide +kernel
theorem dX9_neighbour_88 : decode cX9_neighbour 88 = .ok (.ireturn, 1) := by decide +kernel
set_option maxRecDepth 20000 in
theorem ggX9_steps_X9_bit : GoodIn wsX9_steps wsX9_bit := goodIn_r _ [4] (by decide +kernel) (by decide +kernel)
set_option maxRecDepth 20000 in
theorem gX9_steps_X9_bit : GoodIn wsX9_steps (va_wsS RX9 104 yX9_bit wsX9_bit) := goodIn_app (goodIn_of _ (by decide +kernel)) ggX9_steps_X9_bit
set_option maxRecDepth 20000 in
theorem ggX9_steps_X9_beside : GoodIn wsX9_steps wsX9_beside := goodIn_r _ [7, 8, 9, 10] (by decide +kernel) (by decide +kernel)
set_option maxRecDepth 20000 in
theorem gX9_steps_X9_beside : GoodIn wsX9_steps (va_wsS RX9 294 yX9_beside wsX9_beside) := goodIn_app (goodIn_of _ (by decide +kernel)) ggX9_steps_X9_beside
theorem dX9_steps_0 : decode cX9_steps 0 = .ok (.lload_n 0, 1) := by decide +kernel
theorem dX9_steps_1 : decode cX9_steps 1 = .ok (.iload_n 3, 1) := by decide +kernel
theorem dX9_steps_2 : decode cX9_steps 2 = .ok (.invokestatic 104, 3) := by decide +kernel
theorem dX9_steps_5 : decode cX9_steps 5 = .ok (.land, 1) := by decide +kernel
theorem dX9_steps_6 : decode cX9_steps 6 = .ok (.lconst 0, 1) := by decide +kernel
theorem dX9_steps_7 : decode cX9_steps 7 = .ok (.lcmp, 1) := by decide +kernel
theorem dX9_steps_8 : decode cX9_steps 8 = .ok (.ifCond .ne 6, 3) := by decide +kernel
theorem dX9_steps_11 : decode cX9_steps 11 = .ok (.bipush (-4), 2) := by decide +kernel
theorem dX9_steps_13 : decode cX9_steps 13 = .ok (.ireturn, 1) := by decide +kernel
theorem dX9_steps_14 : decode cX9_steps 14 = .ok (.iload_n 2, 1) := by decide +kernel
theorem dX9_steps_15 : decode cX9_steps 15 = .ok (.invokestatic 104, 3) := by decide +kernel
theorem dX9_steps_18 : decode cX9_steps 18 = .ok (.lload_n 0, 1) := by decide +kernel
theorem dX9_steps_19 : decode cX9_steps 19 = .ok (.land, 1) := by decide +kernel
theorem dX9_steps_20 : decode cX9_steps 20 = .ok (.lstore 4, 2) := by decide +kernel
theorem dX9_steps_22 : decode cX9_steps 22 = .ok (.iconst 0, 1) := by decide +kernel
theorem dX9_steps_23 : decode cX9_steps 23 = .ok (.istore 6, 2) := by decide +kernel
theorem dX9_steps_25 : decode cX9_steps 25 = .ok (.iload 6, 2) := by decide +kernel
theorem dX9_steps_27 : decode cX9_steps 27 = .ok (.bipush 36, 2) := by decide +kernel
theorem dX9_steps_29 : decode cX9_steps 29 = .ok (.if_icmp .ge 51, 3) := by decide +kernel
theorem dX9_steps_32 : decode cX9_steps 32 = .ok (.lload 4, 2) := by decide +kernel
theorem dX9_steps_34 : decode cX9_steps 34 = .ok (.iload_n 3, 1) := by decide +kernel
theorem dX9_steps_35 : decode cX9_steps 35 = .ok (.invokestatic 104, 3) := by decide +kernel
theorem dX9_steps_38 : decode cX9_steps 38 = .ok (.land, 1) := by decide +kernel
theorem dX9_steps_39 : decode cX9_steps 39 = .ok (.lconst 0, 1) := by decide +kernel
theorem dX9_steps_40 : decode cX9_steps 40 = .ok (.lcmp, 1) := by decide +kernel
theorem dX9_steps_41 : decode cX9_steps 41 = .ok (.ifCond .eq 6, 3) := by decide +kernel
theorem dX9_steps_44 : decode cX9_steps 44 = .ok (.iload 6, 2) := by decide +kernel
theorem dX9_steps_46 : decode cX9_steps 46 = .ok (.ireturn, 1) := by decide +kernel
theorem dX9_steps_47 : decode cX9_steps 47 = .ok (.lload 4, 2) := by decide +kernel
theorem dX9_steps_49 : decode cX9_steps 49 = .ok (.lload 4, 2) := by decide +kernel
theorem dX9_steps_51 : decode cX9_steps 51 = .ok (.invokestatic 294, 3) := by decide +kernel
theorem dX9_steps_54 : decode cX9_steps 54 = .ok (.lload_n 0, 1) := by decide +kernel
theorem dX9_steps_55 : decode cX9_steps 55 = .ok (.land, 1) := by decide +kernel
theorem dX9_steps_56 : decode cX9_steps 56 = .ok (.lor, 1) := by decide +kernel
theorem dX9_steps_57 : decode cX9_steps 57 = .ok (.lstore 7, 2) := by decide +kernel
theorem dX9_steps_59 : decode cX9_steps 59 = .ok (.lload 7, 2) := by decide +kernel
theorem dX9_steps_61 : decode cX9_steps 61 = .ok (.lload 4, 2) := by decide +kernel
theorem dX9_steps_63 : decode cX9_steps 63 = .ok (.lcmp, 1) := by decide +kernel
theorem dX9_steps_64 : decode cX9_steps 64 = .ok (.ifCond .ne 6, 3) := by decide +kernel
theorem dX9_steps_67 : decode cX9_steps 67 = .ok (.bipush (-4), 2) := by decide +kernel
theorem dX9_steps_69 : decode cX9_steps 69 = .ok (.ireturn, 1) := by decide +kernel
theorem dX9_steps_70 : decode cX9_steps 70 = .ok (.lload 7, 2) := by decide +kernel
theorem dX9_steps_72 : decode cX9_steps 72 = .ok (.lstore 4, 2) := by decide +kernel
theorem dX9_steps_74 : decode cX9_steps 74 = .ok (.iinc 6 1, 3) := by decide +kernel
theorem dX9_steps_77 : decode cX9_steps 77 = .ok (.goto (-52), 3) := by decide +kernel
theorem dX9_steps_80 : decode cX9_steps 80 = .ok (.bipush (-4), 2) := by decide +kernel
theorem dX9_steps_82 : decode cX9_steps 82 = .ok (.ireturn, 1) := by decide +kernel
set_option maxRecDepth 20000 in
theorem ggX9_joined_X9_bit : GoodIn wsX9_joined wsX9_bit := goodIn_r _ [4] (by decide +kernel) (by decide +kernel)
set_option maxRecDepth 20000 in
theorem gX9_joined_X9_bit : GoodIn wsX9_joined (va_wsS RX9 104 yX9_bit wsX9_bit) := goodIn_app (goodIn_of _ (by decide +kernel)) ggX9_joined_X9_bit
set_option maxRecDepth 20000 in
theorem ggX9_joined_X9_beside : GoodIn wsX9_joined wsX9_beside := goodIn_r _ [7, 8, 9, 10] (by decide +kernel) (by decide +kernel)
set_option maxRecDepth 20000 in
theorem gX9_joined_X9_beside : GoodIn wsX9_joined (va_wsS RX9 294 yX9_beside wsX9_beside) := goodIn_app (goodIn_of _ (by decide +kernel)) ggX9_joined_X9_beside
theorem dX9_joined_0 : decode cX9_joined 0 = .ok (.iload_n 2, 1) := by decide +kernel
theorem dX9_joined_1 : decode cX9_joined 1 = .ok (.invokestatic 104, 3) := by decide +kernel
theorem dX9_joined_4 : decode cX9_joined 4 = .ok (.lstore_n 3, 1) := by decide +kernel
theorem dX9_joined_5 : decode cX9_joined 5 = .ok (.iconst 0, 1) := by decide +kernel
theorem dX9_joined_6 : decode cX9_joined 6 = .ok (.istore 5, 2) := by decide +kernel
theorem dX9_joined_8 : decode cX9_joined 8 = .ok (.iload 5, 2) := by decide +kernel
theorem dX9_joined_10 : decode cX9_joined 10 = .ok (.bipush 36, 2) := by decide +kernel
theorem dX9_joined_12 : decode cX9_joined 12 = .ok (.if_icmp .ge 18, 3) := by decide +kernel
theorem dX9_joined_15 : decode cX9_joined 15 = .ok (.lload_n 3, 1) := by decide +kernel
theorem dX9_joined_16 : decode cX9_joined 16 = .ok (.lload_n 3, 1) := by decide +kernel
theorem dX9_joined_17 : decode cX9_joined 17 = .ok (.invokestatic 294, 3) := by decide +kernel
theorem dX9_joined_20 : decode cX9_joined 20 = .ok (.lload_n 0, 1) := by decide +kernel
theorem dX9_joined_21 : decode cX9_joined 21 = .ok (.land, 1) := by decide +kernel
theorem dX9_joined_22 : decode cX9_joined 22 = .ok (.lor, 1) := by decide +kernel
theorem dX9_joined_23 : decode cX9_joined 23 = .ok (.lstore_n 3, 1) := by decide +kernel
theorem dX9_joined_24 : decode cX9_joined 24 = .ok (.iinc 5 1, 3) := by decide +kernel
theorem dX9_joined_27 : decode cX9_joined 27 = .ok (.goto (-19), 3) := by decide +kernel
theorem dX9_joined_30 : decode cX9_joined 30 = .ok (.lload_n 3, 1) := by decide +kernel
theorem dX9_joined_31 : decode cX9_joined 31 = .ok (.lreturn, 1) := by decide +kernel
set_option maxRecDepth 20000 in
theorem ggX9_fewestHours_X3_begin : GoodIn wsX9_fewestHours wsX3_begin := goodIn_r _ [8, 9, 10, 11, 12, 13, 14, 15, 16, 17, 18, 19, 20, 126, 127, 128, 129, 130, 131, 132, 133, 134, 135, 136, 137, 138, 139, 140] (by decide +kernel) (by decide +kernel)
set_option maxRecDepth 20000 in
theorem gX9_fewestHours_X3_begin : GoodIn wsX9_fewestHours (wsV RX9 219 RX3 yX3_begin wsX3_begin) := goodIn_app (goodIn_of _ (by decide +kernel)) ggX9_fewestHours_X3_begin
set_option maxRecDepth 20000 in
theorem ggX9_fewestHours_X1_seat : GoodIn wsX9_fewestHours wsX1_seat := goodIn_r _ [24, 18, 19, 136, 137, 138, 139, 140] (by decide +kernel) (by decide +kernel)
set_option maxRecDepth 20000 in
theorem gX9_fewestHours_X1_seat : GoodIn wsX9_fewestHours (wsV RX9 135 RX1 yX1_seat wsX1_seat) := goodIn_app (goodIn_of _ (by decide +kernel)) ggX9_fewestHours_X1_seat
set_option maxRecDepth 20000 in
theorem ggX9_fewestHours_X3_stepsThen : GoodIn wsX9_fewestHours wsX3_stepsThen := goodIn_r _ [28, 29, 30, 31, 32, 33, 34, 35, 36, 7, 37, 38, 9, 39, 40, 41, 42, 43, 44, 45, 46, 47, 48, 49, 50, 51, 52, 53, 54, 55, 56, 57, 58, 59, 60, 61, 62, 63, 64, 65, 66, 67, 68, 69, 70, 71, 14, 72, 19, 73, 74, 75, 76, 17, 77, 78, 79, 80, 81, 82, 83, 84, 85, 86, 87, 88, 89, 90, 91, 92, 93, 94, 95, 96, 16, 18, 97, 98, 99, 100, 101, 102, 103, 104, 105, 106, 107, 108, 109, 110, 111, 112, 113, 114, 115, 116, 117, 126, 127, 128, 129, 130, 131, 132, 133, 134, 135, 141, 142, 143, 144, 145, 146, 147, 136, 137, 138, 139, 140] (by decide +kernel) (by decide +kernel)
set_option maxRecDepth 20000 in
theorem gX9_fewestHours_X3_stepsThen : GoodIn wsX9_fewestHours (wsV RX9 224 RX3 yX3_stepsThen wsX3_stepsThen) := goodIn_app (goodIn_of _ (by decide +kernel)) ggX9_fewestHours_X3_stepsThen
theorem dX9_fewestHours_0 : decode cX9_fewestHours 0 = .ok (.aload_n 0, 1) := by decide +kernel
theorem dX9_fewestHours_1 : decode cX9_fewestHours 1 = .ok (.getfield 29, 3) := by decide +kernel
theorem dX9_fewestHours_4 : decode cX9_fewestHours 4 = .ok (.aload_n 0, 1) := by decide +kernel
theorem dX9_fewestHours_5 : decode cX9_fewestHours 5 = .ok (.getfield 19, 3) := by decide +kernel
theorem dX9_fewestHours_8 : decode cX9_fewestHours 8 = .ok (.invokevirtual 219, 3) := by decide +kernel
theorem dX9_fewestHours_11 : decode cX9_fewestHours 11 = .ok (.aload_n 0, 1) := by decide +kernel
theorem dX9_fewestHours_12 : decode cX9_fewestHours 12 = .ok (.getfield 29, 3) := by decide +kernel
theorem dX9_fewestHours_15 : decode cX9_fewestHours 15 = .ok (.getfield 223, 3) := by decide +kernel
theorem dX9_fewestHours_18 : decode cX9_fewestHours 18 = .ok (.iload_n 1, 1) := by decide +kernel
theorem dX9_fewestHours_19 : decode cX9_fewestHours 19 = .ok (.iconst 0, 1) := by decide +kernel
theorem dX9_fewestHours_20 : decode cX9_fewestHours 20 = .ok (.iconst 0, 1) := by decide +kernel
theorem dX9_fewestHours_21 : decode cX9_fewestHours 21 = .ok (.invokevirtual 135, 3) := by decide +kernel
theorem dX9_fewestHours_24 : decode cX9_fewestHours 24 = .ok (.aload_n 0, 1) := by decide +kernel
theorem dX9_fewestHours_25 : decode cX9_fewestHours 25 = .ok (.getfield 29, 3) := by decide +kernel
theorem dX9_fewestHours_28 : decode cX9_fewestHours 28 = .ok (.aload_n 0, 1) := by decide +kernel
theorem dX9_fewestHours_29 : decode cX9_fewestHours 29 = .ok (.getfield 19, 3) := by decide +kernel
theorem dX9_fewestHours_32 : decode cX9_fewestHours 32 = .ok (.iload_n 2, 1) := by decide +kernel
theorem dX9_fewestHours_33 : decode cX9_fewestHours 33 = .ok (.iload_n 3, 1) := by decide +kernel
theorem dX9_fewestHours_34 : decode cX9_fewestHours 34 = .ok (.invokevirtual 224, 3) := by decide +kernel
theorem dX9_fewestHours_37 : decode cX9_fewestHours 37 = .ok (.ifCond .lt 5, 3) := by decide +kernel
theorem dX9_fewestHours_40 : decode cX9_fewestHours 40 = .ok (.iconst 0, 1) := by decide +kernel
theorem dX9_fewestHours_41 : decode cX9_fewestHours 41 = .ok (.ireturn, 1) := by decide +kernel
theorem dX9_fewestHours_42 : decode cX9_fewestHours 42 = .ok (.iconst 1, 1) := by decide +kernel
theorem dX9_fewestHours_43 : decode cX9_fewestHours 43 = .ok (.istore 4, 2) := by decide +kernel
theorem dX9_fewestHours_45 : decode cX9_fewestHours 45 = .ok (.iload 4, 2) := by decide +kernel
theorem dX9_fewestHours_47 : decode cX9_fewestHours 47 = .ok (.bipush 99, 2) := by decide +kernel
theorem dX9_fewestHours_49 : decode cX9_fewestHours 49 = .ok (.if_icmp .gt 65, 3) := by decide +kernel
theorem dX9_fewestHours_52 : decode cX9_fewestHours 52 = .ok (.iconst 0, 1) := by decide +kernel
theorem dX9_fewestHours_53 : decode cX9_fewestHours 53 = .ok (.istore 5, 2) := by decide +kernel
theorem dX9_fewestHours_55 : decode cX9_fewestHours 55 = .ok (.iload 5, 2) := by decide +kernel
theorem dX9_fewestHours_57 : decode cX9_fewestHours 57 = .ok (.bipush 36, 2) := by decide +kernel
theorem dX9_fewestHours_59 : decode cX9_fewestHours 59 = .ok (.if_icmp .ge 49, 3) := by decide +kernel
theorem dX9_fewestHours_62 : decode cX9_fewestHours 62 = .ok (.aload_n 0, 1) := by decide +kernel
theorem dX9_fewestHours_63 : decode cX9_fewestHours 63 = .ok (.getfield 29, 3) := by decide +kernel
theorem dX9_fewestHours_66 : decode cX9_fewestHours 66 = .ok (.getfield 223, 3) := by decide +kernel
theorem dX9_fewestHours_69 : decode cX9_fewestHours 69 = .ok (.iload_n 1, 1) := by decide +kernel
theorem dX9_fewestHours_70 : decode cX9_fewestHours 70 = .ok (.iload 5, 2) := by decide +kernel
theorem dX9_fewestHours_72 : decode cX9_fewestHours 72 = .ok (.iload 4, 2) := by decide +kernel
theorem dX9_fewestHours_74 : decode cX9_fewestHours 74 = .ok (.invokevirtual 135, 3) := by decide +kernel
theorem dX9_fewestHours_77 : decode cX9_fewestHours 77 = .ok (.aload_n 0, 1) := by decide +kernel
theorem dX9_fewestHours_78 : decode cX9_fewestHours 78 = .ok (.getfield 29, 3) := by decide +kernel
theorem dX9_fewestHours_81 : decode cX9_fewestHours 81 = .ok (.aload_n 0, 1) := by decide +kernel
theorem dX9_fewestHours_82 : decode cX9_fewestHours 82 = .ok (.getfield 19, 3) := by decide +kernel
theorem dX9_fewestHours_85 : decode cX9_fewestHours 85 = .ok (.iload_n 2, 1) := by decide +kernel
theorem dX9_fewestHours_86 : decode cX9_fewestHours 86 = .ok (.iload_n 3, 1) := by decide +kernel
theorem dX9_fewestHours_87 : decode cX9_fewestHours 87 = .ok (.invokevirtual 224, 3) := by decide +kernel
theorem dX9_fewestHours_90 : decode cX9_fewestHours 90 = .ok (.ifCond .lt 12, 3) := by decide +kernel
theorem dX9_fewestHours_93 : decode cX9_fewestHours 93 = .ok (.iload 4, 2) := by decide +kernel
theorem dX9_fewestHours_95 : decode cX9_fewestHours 95 = .ok (.bipush 36, 2) := by decide +kernel
theorem dX9_fewestHours_97 : decode cX9_fewestHours 97 = .ok (.imul, 1) := by decide +kernel
theorem dX9_fewestHours_98 : decode cX9_fewestHours 98 = .ok (.iload 5, 2) := by decide +kernel
theorem dX9_fewestHours_100 : decode cX9_fewestHours 100 = .ok (.iadd, 1) := by decide +kernel
theorem dX9_fewestHours_101 : decode cX9_fewestHours 101 = .ok (.ireturn, 1) := by decide +kernel
theorem dX9_fewestHours_102 : decode cX9_fewestHours 102 = .ok (.iinc 5 1, 3) := by decide +kernel
theorem dX9_fewestHours_105 : decode cX9_fewestHours 105 = .ok (.goto (-50), 3) := by decide +kernel
theorem dX9_fewestHours_108 : decode cX9_fewestHours 108 = .ok (.iinc 4 1, 3) := by decide +kernel
theorem dX9_fewestHours_111 : decode cX9_fewestHours 111 = .ok (.goto (-66), 3) := by decide +kernel
theorem dX9_fewestHours_114 : decode cX9_fewestHours 114 = .ok (.bipush (-4), 2) := by decide +kernel
theorem dX9_fewestHours_116 : decode cX9_fewestHours 116 = .ok (.ireturn, 1) := by decide +kernel
