theorem dX7_tell_96 : decode cX7_tell 96 = .ok (.getfield 36, 3) := by decide +kernel
theorem dX7_tell_99 : decode cX7_tell 99 = .ok (.iload 6, 2) := by decide +kernel
theorem dX7_tell_101 : decode cX7_tell 101 = .ok (.invokevirtual 40, 3) := by decide +kernel
theorem dX7_tell_104 : decode cX7_tell 104 = .ok (.aload_n 0, 1) := by decide +kernel
theorem dX7_tell_105 : decode cX7_tell 105 = .ok (.getfield 29, 3) := by decide +kernel
theorem dX7_tell_108 : decode cX7_tell 108 = .ok (.aload_n 0, 1) := by decide +kernel
theorem dX7_tell_109 : decode cX7_tell 109 = .ok (.getfield 36, 3) := by decide +kernel
theorem dX7_tell_112 : decode cX7_tell 112 = .ok (.iload_n 3, 1) := by decide +kernel
theorem dX7_tell_113 : decode cX7_tell 113 = .ok (.bipush 100, 2) := by decide +kernel
theorem dX7_tell_115 : decode cX7_tell 115 = .ok (.idiv, 1) := by decide +kernel
theorem dX7_tell_116 : decode cX7_tell 116 = .ok (.sipush 1000, 3) := by decide +kernel
theorem dX7_tell_119 : decode cX7_tell 119 = .ok (.irem, 1) := by decide +kernel
theorem dX7_tell_120 : decode cX7_tell 120 = .ok (.invokevirtual 40, 3) := by decide +kernel
theorem dX7_tell_123 : decode cX7_tell 123 = .ok (.aload_n 0, 1) := by decide +kernel
theorem dX7_tell_124 : decode cX7_tell 124 = .ok (.getfield 32, 3) := by decide +kernel
theorem dX7_tell_127 : decode cX7_tell 127 = .ok (.aload_n 0, 1) := by decide +kernel
theorem dX7_tell_128 : decode cX7_tell 128 = .ok (.getfield 36, 3) := by decide +kernel
theorem dX7_tell_131 : decode cX7_tell 131 = .ok (.iload_n 3, 1) := by decide +kernel
theorem dX7_tell_132 : decode cX7_tell 132 = .ok (.bipush 100, 2) := by decide +kernel
theorem dX7_tell_134 : decode cX7_tell 134 = .ok (.irem, 1) := by decide +kernel
theorem dX7_tell_135 : decode cX7_tell 135 = .ok (.invokevirtual 40, 3) := by decide +kernel
theorem dX7_tell_138 : decode cX7_tell 138 = .ok (.aload_n 0, 1) := by decide +kernel
theorem dX7_tell_139 : decode cX7_tell 139 = .ok (.dup, 1) := by decide +kernel
theorem dX7_tell_140 : decode cX7_tell 140 = .ok (.getfield 36, 3) := by decide +kernel
theorem dX7_tell_143 : decode cX7_tell 143 = .ok (.iconst 1, 1) := by decide +kernel
theorem dX7_tell_144 : decode cX7_tell 144 = .ok (.iadd, 1) := by decide +kernel
theorem dX7_tell_145 : decode cX7_tell 145 = .ok (.putfield 36, 3) := by decide +kernel
theorem dX7_tell_148 : decode cX7_tell 148 = .ok (.iconst 1, 1) := by decide +kernel
theorem dX7_tell_149 : decode cX7_tell 149 = .ok (.ireturn, 1) := by decide +kernel
set_option maxRecDepth 20000 in
theorem ggX7_capIn_X7_inForce : GoodIn wsX7_capIn wsX7_inForce := goodIn_r _ [8, 9, 2, 10, 11, 12, 13, 14, 15, 16, 17, 18, 19, 20, 21, 22, 23] (by decide +kernel) (by decide +kernel)
set_option maxRecDepth 20000 in
theorem gX7_capIn_X7_inForce : GoodIn wsX7_capIn (wsV RX7 43 RX7 yX7_inForce wsX7_inForce) := goodIn_app (goodIn_of _ (by decide +kernel)) ggX7_capIn_X7_inForce
set_option maxRecDepth 20000 in
theorem ggX7_capIn_X6_at : GoodIn wsX7_capIn wsX6_at := goodIn_r _ [14, 15, 23] (by decide +kernel) (by decide +kernel)
set_option maxRecDepth 20000 in
theorem gX7_capIn_X6_at : GoodIn wsX7_capIn (wsV RX7 47 RX6 yX6_at wsX6_at) := goodIn_app (goodIn_of _ (by decide +kernel)) ggX7_capIn_X6_at
theorem dX7_capIn_0 : decode cX7_capIn 0 = .ok (.aload_n 0, 1) := by decide +kernel
theorem dX7_capIn_1 : decode cX7_capIn 1 = .ok (.iload_n 1, 1) := by decide +kernel
theorem dX7_capIn_2 : decode cX7_capIn 2 = .ok (.invokevirtual 43, 3) := by decide +kernel
theorem dX7_capIn_5 : decode cX7_capIn 5 = .ok (.istore_n 2, 1) := by decide +kernel
theorem dX7_capIn_6 : decode cX7_capIn 6 = .ok (.aload_n 0, 1) := by decide +kernel
theorem dX7_capIn_7 : decode cX7_capIn 7 = .ok (.getfield 20, 3) := by decide +kernel
theorem dX7_capIn_10 : decode cX7_capIn 10 = .ok (.iload_n 2, 1) := by decide +kernel
theorem dX7_capIn_11 : decode cX7_capIn 11 = .ok (.invokevirtual 47, 3) := by decide +kernel
theorem dX7_capIn_14 : decode cX7_capIn 14 = .ok (.istore_n 3, 1) := by decide +kernel
theorem dX7_capIn_15 : decode cX7_capIn 15 = .ok (.aload_n 0, 1) := by decide +kernel
theorem dX7_capIn_16 : decode cX7_capIn 16 = .ok (.getfield 14, 3) := by decide +kernel
theorem dX7_capIn_19 : decode cX7_capIn 19 = .ok (.iload_n 2, 1) := by decide +kernel
theorem dX7_capIn_20 : decode cX7_capIn 20 = .ok (.invokevirtual 47, 3) := by decide +kernel
theorem dX7_capIn_23 : decode cX7_capIn 23 = .ok (.istore 4, 2) := by decide +kernel
theorem dX7_capIn_25 : decode cX7_capIn 25 = .ok (.iload 4, 2) := by decide +kernel
theorem dX7_capIn_27 : decode cX7_capIn 27 = .ok (.iload_n 1, 1) := by decide +kernel
theorem dX7_capIn_28 : decode cX7_capIn 28 = .ok (.if_icmp .ge 25, 3) := by decide +kernel
theorem dX7_capIn_31 : decode cX7_capIn 31 = .ok (.iload_n 3, 1) := by decide +kernel
theorem dX7_capIn_32 : decode cX7_capIn 32 = .ok (.iload_n 3, 1) := by decide +kernel
theorem dX7_capIn_33 : decode cX7_capIn 33 = .ok (.aload_n 0, 1) := by decide +kernel
theorem dX7_capIn_34 : decode cX7_capIn 34 = .ok (.getfield 23, 3) := by decide +kernel
theorem dX7_capIn_37 : decode cX7_capIn 37 = .ok (.iload_n 2, 1) := by decide +kernel
theorem dX7_capIn_38 : decode cX7_capIn 38 = .ok (.invokevirtual 47, 3) := by decide +kernel
theorem dX7_capIn_41 : decode cX7_capIn 41 = .ok (.imul, 1) := by decide +kernel
theorem dX7_capIn_42 : decode cX7_capIn 42 = .ok (.bipush 100, 2) := by decide +kernel
theorem dX7_capIn_44 : decode cX7_capIn 44 = .ok (.idiv, 1) := by decide +kernel
theorem dX7_capIn_45 : decode cX7_capIn 45 = .ok (.isub, 1) := by decide +kernel
theorem dX7_capIn_46 : decode cX7_capIn 46 = .ok (.istore_n 3, 1) := by decide +kernel
theorem dX7_capIn_47 : decode cX7_capIn 47 = .ok (.iinc 4 1, 3) := by decide +kernel
theorem dX7_capIn_50 : decode cX7_capIn 50 = .ok (.goto (-25), 3) := by decide +kernel
theorem dX7_capIn_53 : decode cX7_capIn 53 = .ok (.iload_n 3, 1) := by decide +kernel
theorem dX7_capIn_54 : decode cX7_capIn 54 = .ok (.ireturn, 1) := by decide +kernel
set_option maxRecDepth 20000 in
theorem ggX7_shareIn_X7_inForce : GoodIn wsX7_shareIn wsX7_inForce := goodIn_r _ [6, 7, 8, 9, 10, 11, 12, 13, 14, 15, 16, 17, 18, 19, 20, 21, 22] (by decide +kernel) (by decide +kernel)
set_option maxRecDepth 20000 in
theorem gX7_shareIn_X7_inForce : GoodIn wsX7_shareIn (wsV RX7 43 RX7 yX7_inForce wsX7_inForce) := goodIn_app (goodIn_of _ (by decide +kernel)) ggX7_shareIn_X7_inForce
set_option maxRecDepth 20000 in
theorem ggX7_shareIn_X6_at : GoodIn wsX7_shareIn wsX6_at := goodIn_r _ [13, 14, 22] (by decide +kernel) (by decide +kernel)
set_option maxRecDepth 20000 in
theorem gX7_shareIn_X6_at : GoodIn wsX7_shareIn (wsV RX7 47 RX6 yX6_at wsX6_at) := goodIn_app (goodIn_of _ (by decide +kernel)) ggX7_shareIn_X6_at
theorem dX7_shareIn_0 : decode cX7_shareIn 0 = .ok (.aload_n 0, 1) := by decide +kernel
theorem dX7_shareIn_1 : decode cX7_shareIn 1 = .ok (.getfield 26, 3) := by decide +kernel
theorem dX7_shareIn_4 : decode cX7_shareIn 4 = .ok (.aload_n 0, 1) := by decide +kernel
theorem dX7_shareIn_5 : decode cX7_shareIn 5 = .ok (.iload_n 1, 1) := by decide +kernel
theorem dX7_shareIn_6 : decode cX7_shareIn 6 = .ok (.invokevirtual 43, 3) := by decide +kernel
theorem dX7_shareIn_9 : decode cX7_shareIn 9 = .ok (.invokevirtual 47, 3) := by decide +kernel
theorem dX7_shareIn_12 : decode cX7_shareIn 12 = .ok (.ireturn, 1) := by decide +kernel
set_option maxRecDepth 20000 in
theorem ggX7_fineIn_X7_inForce : GoodIn wsX7_fineIn wsX7_inForce := goodIn_r _ [6, 7, 8, 9, 10, 11, 12, 13, 14, 15, 16, 17, 18, 19, 20, 21, 22] (by decide +kernel) (by decide +kernel)
set_option maxRecDepth 20000 in
theorem gX7_fineIn_X7_inForce : GoodIn wsX7_fineIn (wsV RX7 43 RX7 yX7_inForce wsX7_inForce) := goodIn_app (goodIn_of _ (by decide +kernel)) ggX7_fineIn_X7_inForce
set_option maxRecDepth 20000 in
theorem ggX7_fineIn_X6_at : GoodIn wsX7_fineIn wsX6_at := goodIn_r _ [13, 14, 22] (by decide +kernel) (by decide +kernel)
set_option maxRecDepth 20000 in
theorem gX7_fineIn_X6_at : GoodIn wsX7_fineIn (wsV RX7 47 RX6 yX6_at wsX6_at) := goodIn_app (goodIn_of _ (by decide +kernel)) ggX7_fineIn_X6_at
theorem dX7_fineIn_0 : decode cX7_fineIn 0 = .ok (.aload_n 0, 1) := by decide +kernel
theorem dX7_fineIn_1 : decode cX7_fineIn 1 = .ok (.getfield 29, 3) := by decide +kernel
theorem dX7_fineIn_4 : decode cX7_fineIn 4 = .ok (.aload_n 0, 1) := by decide +kernel
theorem dX7_fineIn_5 : decode cX7_fineIn 5 = .ok (.iload_n 1, 1) := by decide +kernel
theorem dX7_fineIn_6 : decode cX7_fineIn 6 = .ok (.invokevirtual 43, 3) := by decide +kernel
theorem dX7_fineIn_9 : decode cX7_fineIn 9 = .ok (.invokevirtual 47, 3) := by decide +kernel
theorem dX7_fineIn_12 : decode cX7_fineIn 12 = .ok (.ireturn, 1) := by decide +kernel
set_option maxRecDepth 20000 in
theorem ggX7_floorIn_X7_inForce : GoodIn wsX7_floorIn wsX7_inForce := goodIn_r _ [6, 7, 8, 9, 10, 11, 12, 13, 14, 15, 16, 17, 18, 19, 20, 21, 22] (by decide +kernel) (by decide +kernel)
set_option maxRecDepth 20000 in
theorem gX7_floorIn_X7_inForce : GoodIn wsX7_floorIn (wsV RX7 43 RX7 yX7_inForce wsX7_inForce) := goodIn_app (goodIn_of _ (by decide +kernel)) ggX7_floorIn_X7_inForce
set_option maxRecDepth 20000 in
theorem ggX7_floorIn_X6_at : GoodIn wsX7_floorIn wsX6_at := goodIn_r _ [13, 14, 22] (by decide +kernel) (by decide +kernel)
set_option maxRecDepth 20000 in
theorem gX7_floorIn_X6_at : GoodIn wsX7_floorIn (wsV RX7 47 RX6 yX6_at wsX6_at) := goodIn_app (goodIn_of _ (by decide +kernel)) ggX7_floorIn_X6_at
theorem dX7_floorIn_0 : decode cX7_floorIn 0 = .ok (.aload_n 0, 1) := by decide +kernel
theorem dX7_floorIn_1 : decode cX7_floorIn 1 = .ok (.getfield 32, 3) := by decide +kernel
theorem dX7_floorIn_4 : decode cX7_floorIn 4 = .ok (.aload_n 0, 1) := by decide +kernel
theorem dX7_floorIn_5 : decode cX7_floorIn 5 = .ok (.iload_n 1, 1) := by decide +kernel
theorem dX7_floorIn_6 : decode cX7_floorIn 6 = .ok (.invokevirtual 43, 3) := by decide +kernel
theorem dX7_floorIn_9 : decode cX7_floorIn 9 = .ok (.invokevirtual 47, 3) := by decide +kernel
theorem dX7_floorIn_12 : decode cX7_floorIn 12 = .ok (.ireturn, 1) := by decide +kernel
set_option maxRecDepth 20000 in
theorem ggX7_inForce_X6_at : GoodIn wsX7_inForce wsX6_at := goodIn_r _ [7, 8, 16] (by decide +kernel) (by decide +kernel)
set_option maxRecDepth 20000 in
theorem gX7_inForce_X6_at : GoodIn wsX7_inForce (wsV RX7 47 RX6 yX6_at wsX6_at) := goodIn_app (goodIn_of _ (by decide +kernel)) ggX7_inForce_X6_at
theorem dX7_inForce_0 : decode cX7_inForce 0 = .ok (.iconst (-1), 1) := by decide +kernel
theorem dX7_inForce_1 : decode cX7_inForce 1 = .ok (.istore_n 2, 1) := by decide +kernel
theorem dX7_inForce_2 : decode cX7_inForce 2 = .ok (.iconst 0, 1) := by decide +kernel
theorem dX7_inForce_3 : decode cX7_inForce 3 = .ok (.istore_n 3, 1) := by decide +kernel
theorem dX7_inForce_4 : decode cX7_inForce 4 = .ok (.iload_n 3, 1) := by decide +kernel
theorem dX7_inForce_5 : decode cX7_inForce 5 = .ok (.aload_n 0, 1) := by decide +kernel
theorem dX7_inForce_6 : decode cX7_inForce 6 = .ok (.getfield 36, 3) := by decide +kernel
theorem dX7_inForce_9 : decode cX7_inForce 9 = .ok (.if_icmp .ge 47, 3) := by decide +kernel
theorem dX7_inForce_12 : decode cX7_inForce 12 = .ok (.aload_n 0, 1) := by decide +kernel
theorem dX7_inForce_13 : decode cX7_inForce 13 = .ok (.getfield 14, 3) := by decide +kernel
theorem dX7_inForce_16 : decode cX7_inForce 16 = .ok (.iload_n 3, 1) := by decide +kernel
theorem dX7_inForce_17 : decode cX7_inForce 17 = .ok (.invokevirtual 47, 3) := by decide +kernel
theorem dX7_inForce_20 : decode cX7_inForce 20 = .ok (.iload_n 1, 1) := by decide +kernel
theorem dX7_inForce_21 : decode cX7_inForce 21 = .ok (.if_icmp .gt 29, 3) := by decide +kernel
theorem dX7_inForce_24 : decode cX7_inForce 24 = .ok (.iload_n 2, 1) := by decide +kernel
theorem dX7_inForce_25 : decode cX7_inForce 25 = .ok (.iconst (-1), 1) := by decide +kernel
theorem dX7_inForce_26 : decode cX7_inForce 26 = .ok (.if_icmp .eq 22, 3) := by decide +kernel
theorem dX7_inForce_29 : decode cX7_inForce 29 = .ok (.aload_n 0, 1) := by decide +kernel
theorem dX7_inForce_30 : decode cX7_inForce 30 = .ok (.getfield 14, 3) := by decide +kernel
theorem dX7_inForce_33 : decode cX7_inForce 33 = .ok (.iload_n 3, 1) := by decide +kernel
theorem dX7_inForce_34 : decode cX7_inForce 34 = .ok (.invokevirtual 47, 3) := by decide +kernel
theorem dX7_inForce_37 : decode cX7_inForce 37 = .ok (.aload_n 0, 1) := by decide +kernel
theorem dX7_inForce_38 : decode cX7_inForce 38 = .ok (.getfield 14, 3) := by decide +kernel
theorem dX7_inForce_41 : decode cX7_inForce 41 = .ok (.iload_n 2, 1) := by decide +kernel
theorem dX7_inForce_42 : decode cX7_inForce 42 = .ok (.invokevirtual 47, 3) := by decide +kernel
theorem dX7_inForce_45 : decode cX7_inForce 45 = .ok (.if_icmp .lt 5, 3) := by decide +kernel
theorem dX7_inForce_48 : decode cX7_inForce 48 = .ok (.iload_n 3, 1) := by decide +kernel
theorem dX7_inForce_49 : decode cX7_inForce 49 = .ok (.istore_n 2, 1) := by decide +kernel
theorem dX7_inForce_50 : decode cX7_inForce 50 = .ok (.iinc 3 1, 3) := by decide +kernel
theorem dX7_inForce_53 : decode cX7_inForce 53 = .ok (.goto (-49), 3) := by decide +kernel
theorem dX7_inForce_56 : decode cX7_inForce 56 = .ok (.iload_n 2, 1) := by decide +kernel
theorem dX7_inForce_57 : decode cX7_inForce 57 = .ok (.ireturn, 1) := by decide +kernel
set_option maxRecDepth 20000 in
theorem ggX8_init_X7_init : GoodIn wsX8_init wsX7_init := goodIn_r _ [38, 39, 2, 3, 40, 33, 34, 41, 42, 43, 44, 45, 46, 47, 48, 49, 50, 51, 52, 53, 54, 55, 56, 57, 58, 59, 60, 174, 122, 123, 124, 125, 126, 127, 128] (by decide +kernel) (by decide +kernel)
set_option maxRecDepth 20000 in
theorem gX8_init_X7_init : GoodIn wsX8_init (wsX7_init) := ggX8_init_X7_init
set_option maxRecDepth 20000 in
theorem ggX8_init_X4_init : GoodIn wsX8_init wsX4_init := goodIn_r _ [63, 64, 2, 3, 65, 33, 34, 66, 67, 48, 49, 50, 51, 52, 53, 54, 55, 56, 57, 58, 59, 60, 174, 142] (by decide +kernel) (by decide +kernel)
set_option maxRecDepth 20000 in
theorem gX8_init_X4_init : GoodIn wsX8_init (wsX4_init) := ggX8_init_X4_init
set_option maxRecDepth 20000 in
theorem ggX8_init_X5_init : GoodIn wsX8_init wsX5_init := goodIn_r _ [70, 71, 2, 3, 72, 33, 34, 73, 74, 75, 76, 77, 78, 79, 80, 81, 48, 49, 50, 51, 52, 53, 54, 55, 56, 57, 58, 59, 60, 174, 143, 144, 145, 146, 147, 148, 149, 150, 151, 152, 153, 154] (by decide +kernel) (by decide +kernel)
set_option maxRecDepth 20000 in
theorem gX8_init_X5_init : GoodIn wsX8_init (wsX5_init) := ggX8_init_X5_init
set_option maxRecDepth 20000 in
theorem ggX8_init_X0_init : GoodIn wsX8_init wsX0_init := goodIn_r _ [84, 85, 2, 3, 86, 33, 34, 87, 88, 89, 90, 48, 49, 50, 51, 52, 53, 54, 55, 56, 57, 58, 59, 60, 174, 155, 156, 157] (by decide +kernel) (by decide +kernel)
set_option maxRecDepth 20000 in
theorem gX8_init_X0_init : GoodIn wsX8_init (wsX0_init) := ggX8_init_X0_init
set_option maxRecDepth 20000 in
theorem ggX8_init_X1_init : GoodIn wsX8_init wsX1_init := goodIn_r _ [93, 94, 2, 3, 95, 33, 34, 96, 97, 98, 99, 100, 48, 49, 50, 51, 52, 53, 54, 55, 56, 57, 58, 59, 60, 174, 158, 159, 160, 161, 162] (by decide +kernel) (by decide +kernel)
set_option maxRecDepth 20000 in
theorem gX8_init_X1_init : GoodIn wsX8_init (wsX1_init) := ggX8_init_X1_init
set_option maxRecDepth 20000 in
theorem ggX8_init_X2_init : GoodIn wsX8_init wsX2_init := goodIn_r _ [103, 104, 2, 3, 105, 33, 34, 106, 107, 108, 109, 110, 48, 49, 50, 51, 52, 53, 54, 55, 56, 57, 58, 59, 60, 174, 163, 164, 165, 166, 167, 168] (by decide +kernel) (by decide +kernel)
set_option maxRecDepth 20000 in
theorem gX8_init_X2_init : GoodIn wsX8_init (wsX2_init) := ggX8_init_X2_init
set_option maxRecDepth 20000 in
theorem ggX8_init_X3_init : GoodIn wsX8_init wsX3_init := goodIn_r _ [113, 114, 2, 3, 115, 33, 34, 116, 117, 118, 119, 120, 48, 49, 50, 51, 52, 53, 54, 55, 56, 57, 58, 59, 60, 174, 169, 170, 171, 172, 173] (by decide +kernel) (by decide +kernel)
set_option maxRecDepth 20000 in
theorem gX8_init_X3_init : GoodIn wsX8_init (wsX3_init) := ggX8_init_X3_init
set_option maxRecDepth 20000 in
theorem ggX8_init_X6_init : GoodIn wsX8_init wsX6_init := goodIn_r _ [49, 50, 2, 3, 51, 52, 53, 54, 55, 56, 57, 58, 59, 60, 174] (by decide +kernel) (by decide +kernel)
set_option maxRecDepth 20000 in
theorem gX8_init_X6_init : GoodIn wsX8_init (wsX6_init) := ggX8_init_X6_init
theorem dX8_init_0 : decode cX8_init 0 = .ok (.aload_n 0, 1) := by decide +kernel
theorem dX8_init_1 : decode cX8_init 1 = .ok (.invokespecial 1, 3) := by decide +kernel
theorem dX8_init_4 : decode cX8_init 4 = .ok (.aload_n 0, 1) := by decide +kernel
theorem dX8_init_5 : decode cX8_init 5 = .ok (.new 7, 3) := by decide +kernel
theorem dX8_init_8 : decode cX8_init 8 = .ok (.dup, 1) := by decide +kernel
theorem dX8_init_9 : decode cX8_init 9 = .ok (.invokespecial 9, 3) := by decide +kernel
theorem dX8_init_12 : decode cX8_init 12 = .ok (.putfield 10, 3) := by decide +kernel
theorem dX8_init_15 : decode cX8_init 15 = .ok (.aload_n 0, 1) := by decide +kernel
theorem dX8_init_16 : decode cX8_init 16 = .ok (.new 16, 3) := by decide +kernel
theorem dX8_init_19 : decode cX8_init 19 = .ok (.dup, 1) := by decide +kernel
theorem dX8_init_20 : decode cX8_init 20 = .ok (.invokespecial 18, 3) := by decide +kernel
theorem dX8_init_23 : decode cX8_init 23 = .ok (.putfield 19, 3) := by decide +kernel
theorem dX8_init_26 : decode cX8_init 26 = .ok (.aload_n 0, 1) := by decide +kernel
theorem dX8_init_27 : decode cX8_init 27 = .ok (.new 23, 3) := by decide +kernel
theorem dX8_init_30 : decode cX8_init 30 = .ok (.dup, 1) := by decide +kernel
theorem dX8_init_31 : decode cX8_init 31 = .ok (.invokespecial 25, 3) := by decide +kernel
theorem dX8_init_34 : decode cX8_init 34 = .ok (.putfield 26, 3) := by decide +kernel
theorem dX8_init_37 : decode cX8_init 37 = .ok (.aload_n 0, 1) := by decide +kernel
theorem dX8_init_38 : decode cX8_init 38 = .ok (.new 30, 3) := by decide +kernel
theorem dX8_init_41 : decode cX8_init 41 = .ok (.dup, 1) := by decide +kernel
theorem dX8_init_42 : decode cX8_init 42 = .ok (.invokespecial 32, 3) := by decide +kernel
theorem dX8_init_45 : decode cX8_init 45 = .ok (.putfield 33, 3) := by decide +kernel
theorem dX8_init_48 : decode cX8_init 48 = .ok (.aload_n 0, 1) := by decide +kernel
theorem dX8_init_49 : decode cX8_init 49 = .ok (.new 37, 3) := by decide +kernel
theorem dX8_init_52 : decode cX8_init 52 = .ok (.dup, 1) := by decide +kernel
theorem dX8_init_53 : decode cX8_init 53 = .ok (.invokespecial 39, 3) := by decide +kernel
theorem dX8_init_56 : decode cX8_init 56 = .ok (.putfield 40, 3) := by decide +kernel
theorem dX8_init_59 : decode cX8_init 59 = .ok (.aload_n 0, 1) := by decide +kernel
theorem dX8_init_60 : decode cX8_init 60 = .ok (.new 44, 3) := by decide +kernel
theorem dX8_init_63 : decode cX8_init 63 = .ok (.dup, 1) := by decide +kernel
theorem dX8_init_64 : decode cX8_init 64 = .ok (.invokespecial 46, 3) := by decide +kernel
theorem dX8_init_67 : decode cX8_init 67 = .ok (.putfield 47, 3) := by decide +kernel
theorem dX8_init_70 : decode cX8_init 70 = .ok (.aload_n 0, 1) := by decide +kernel
theorem dX8_init_71 : decode cX8_init 71 = .ok (.new 51, 3) := by decide +kernel
theorem dX8_init_74 : decode cX8_init 74 = .ok (.dup, 1) := by decide +kernel
theorem dX8_init_75 : decode cX8_init 75 = .ok (.invokespecial 53, 3) := by decide +kernel
theorem dX8_init_78 : decode cX8_init 78 = .ok (.putfield 54, 3) := by decide +kernel
theorem dX8_init_81 : decode cX8_init 81 = .ok (.aload_n 0, 1) := by decide +kernel
theorem dX8_init_82 : decode cX8_init 82 = .ok (.new 58, 3) := by decide +kernel
theorem dX8_init_85 : decode cX8_init 85 = .ok (.dup, 1) := by decide +kernel
theorem dX8_init_86 : decode cX8_init 86 = .ok (.bipush 20, 2) := by decide +kernel
theorem dX8_init_88 : decode cX8_init 88 = .ok (.iconst 0, 1) := by decide +kernel
theorem dX8_init_89 : decode cX8_init 89 = .ok (.invokespecial 60, 3) := by decide +kernel
theorem dX8_init_92 : decode cX8_init 92 = .ok (.putfield 63, 3) := by decide +kernel
theorem dX8_init_95 : decode cX8_init 95 = .ok (.return_, 1) := by decide +kernel
theorem dX8_works_0 : decode cX8_works 0 = .ok (.aload_n 0, 1) := by decide +kernel
theorem dX8_works_1 : decode cX8_works 1 = .ok (.getfield 67, 3) := by decide +kernel
theorem dX8_works_4 : decode cX8_works 4 = .ok (.bipush 10, 2) := by decide +kernel
theorem dX8_works_6 : decode cX8_works 6 = .ok (.if_icmp .lt 5, 3) := by decide +kernel
theorem dX8_works_9 : decode cX8_works 9 = .ok (.iconst (-1), 1) := by decide +kernel
theorem dX8_works_10 : decode cX8_works 10 = .ok (.ireturn, 1) := by decide +kernel
theorem dX8_works_11 : decode cX8_works 11 = .ok (.aload_n 0, 1) := by decide +kernel
theorem dX8_works_12 : decode cX8_works 12 = .ok (.dup, 1) := by decide +kernel
theorem dX8_works_13 : decode cX8_works 13 = .ok (.getfield 67, 3) := by decide +kernel
theorem dX8_works_16 : decode cX8_works 16 = .ok (.iconst 1, 1) := by decide +kernel
theorem dX8_works_17 : decode cX8_works 17 = .ok (.iadd, 1) := by decide +kernel
theorem dX8_works_18 : decode cX8_works 18 = .ok (.putfield 67, 3) := by decide +kernel
theorem dX8_works_21 : decode cX8_works 21 = .ok (.aload_n 0, 1) := by decide +kernel
theorem dX8_works_22 : decode cX8_works 22 = .ok (.getfield 67, 3) := by decide +kernel
theorem dX8_works_25 : decode cX8_works 25 = .ok (.iconst 1, 1) := by decide +kernel
theorem dX8_works_26 : decode cX8_works 26 = .ok (.isub, 1) := by decide +kernel
theorem dX8_works_27 : decode cX8_works 27 = .ok (.ireturn, 1) := by decide +kernel
set_option maxRecDepth 20000 in
theorem ggX8_rule_X8_isYear : GoodIn wsX8_rule wsX8_isYear := goodIn_r _ [5, 6, 7, 4, 8] (by decide +kernel) (by decide +kernel)
set_option maxRecDepth 20000 in
theorem gX8_rule_X8_isYear : GoodIn wsX8_rule (va_wsS RX8 71 yX8_isYear wsX8_isYear) := goodIn_app (goodIn_of _ (by decide +kernel)) ggX8_rule_X8_isYear
set_option maxRecDepth 20000 in
theorem ggX8_rule_X7_tell : GoodIn wsX8_rule wsX7_tell := goodIn_r _ [13, 14, 15, 16, 17, 18, 19, 20, 21, 22, 23, 24, 25, 26, 27, 41, 42, 43, 44, 45, 46, 47, 48] (by decide +kernel) (by decide +kernel)
set_option maxRecDepth 20000 in
theorem gX8_rule_X7_tell : GoodIn wsX8_rule (wsV RX8 75 RX7 yX7_tell wsX7_tell) := goodIn_app (goodIn_of _ (by decide +kernel)) ggX8_rule_X7_tell
theorem dX8_rule_0 : decode cX8_rule 0 = .ok (.iload_n 1, 1) := by decide +kernel
theorem dX8_rule_1 : decode cX8_rule 1 = .ok (.invokestatic 71, 3) := by decide +kernel
theorem dX8_rule_4 : decode cX8_rule 4 = .ok (.ifCond .eq 11, 3) := by decide +kernel
theorem dX8_rule_7 : decode cX8_rule 7 = .ok (.iload_n 2, 1) := by decide +kernel
theorem dX8_rule_8 : decode cX8_rule 8 = .ok (.ifCond .lt 7, 3) := by decide +kernel
theorem dX8_rule_11 : decode cX8_rule 11 = .ok (.iload_n 3, 1) := by decide +kernel
theorem dX8_rule_12 : decode cX8_rule 12 = .ok (.ifCond .ge 5, 3) := by decide +kernel
theorem dX8_rule_15 : decode cX8_rule 15 = .ok (.iconst 0, 1) := by decide +kernel
theorem dX8_rule_16 : decode cX8_rule 16 = .ok (.ireturn, 1) := by decide +kernel
theorem dX8_rule_17 : decode cX8_rule 17 = .ok (.aload_n 0, 1) := by decide +kernel
theorem dX8_rule_18 : decode cX8_rule 18 = .ok (.getfield 10, 3) := by decide +kernel
theorem dX8_rule_21 : decode cX8_rule 21 = .ok (.iload_n 1, 1) := by decide +kernel
theorem dX8_rule_22 : decode cX8_rule 22 = .ok (.iload_n 2, 1) := by decide +kernel
theorem dX8_rule_23 : decode cX8_rule 23 = .ok (.iload_n 3, 1) := by decide +kernel
theorem dX8_rule_24 : decode cX8_rule 24 = .ok (.invokevirtual 75, 3) := by decide +kernel
theorem dX8_rule_27 : decode cX8_rule 27 = .ok (.ireturn, 1) := by decide +kernel
set_option maxRecDepth 20000 in
theorem ggX8_ruled_X8_isYear : GoodIn wsX8_ruled wsX8_isYear := goodIn_r _ [5, 6, 7, 4, 8] (by decide +kernel) (by decide +kernel)
set_option maxRecDepth 20000 in
theorem gX8_ruled_X8_isYear : GoodIn wsX8_ruled (va_wsS RX8 71 yX8_isYear wsX8_isYear) := goodIn_app (goodIn_of _ (by decide +kernel)) ggX8_ruled_X8_isYear
set_option maxRecDepth 20000 in
theorem ggX8_ruled_X7_capIn : GoodIn wsX8_ruled wsX7_capIn := goodIn_r _ [13, 14, 15, 16, 17, 18, 19, 12, 20, 21, 22, 23, 24, 25, 26, 27, 56, 57, 58, 59, 60, 61, 62, 63] (by decide +kernel) (by decide +kernel)
set_option maxRecDepth 20000 in
theorem gX8_ruled_X7_capIn : GoodIn wsX8_ruled (wsV RX8 79 RX7 yX7_capIn wsX7_capIn) := goodIn_app (goodIn_of _ (by decide +kernel)) ggX8_ruled_X7_capIn
set_option maxRecDepth 20000 in
theorem ggX8_ruled_X7_shareIn : GoodIn wsX8_ruled wsX7_shareIn := goodIn_r _ [31, 32, 17, 18, 19, 12, 20, 21, 15, 22, 23, 24, 25, 26, 27, 56, 57, 58, 59, 60, 61, 62, 63] (by decide +kernel) (by decide +kernel)
set_option maxRecDepth 20000 in
theorem gX8_ruled_X7_shareIn : GoodIn wsX8_ruled (wsV RX8 83 RX7 yX7_shareIn wsX7_shareIn) := goodIn_app (goodIn_of _ (by decide +kernel)) ggX8_ruled_X7_shareIn
set_option maxRecDepth 20000 in
theorem ggX8_ruled_X7_fineIn : GoodIn wsX8_ruled wsX7_fineIn := goodIn_r _ [36, 37, 17, 18, 19, 12, 20, 21, 15, 22, 23, 24, 25, 26, 27, 56, 57, 58, 59, 60, 61, 62, 63] (by decide +kernel) (by decide +kernel)
set_option maxRecDepth 20000 in
theorem gX8_ruled_X7_fineIn : GoodIn wsX8_ruled (wsV RX8 86 RX7 yX7_fineIn wsX7_fineIn) := goodIn_app (goodIn_of _ (by decide +kernel)) ggX8_ruled_X7_fineIn
set_option maxRecDepth 20000 in
theorem ggX8_ruled_X7_floorIn : GoodIn wsX8_ruled wsX7_floorIn := goodIn_r _ [41, 42, 17, 18, 19, 12, 20, 21, 15, 22, 23, 24, 25, 26, 27, 56, 57, 58, 59, 60, 61, 62, 63] (by decide +kernel) (by decide +kernel)
set_option maxRecDepth 20000 in
theorem gX8_ruled_X7_floorIn : GoodIn wsX8_ruled (wsV RX8 89 RX7 yX7_floorIn wsX7_floorIn) := goodIn_app (goodIn_of _ (by decide +kernel)) ggX8_ruled_X7_floorIn
theorem dX8_ruled_0 : decode cX8_ruled 0 = .ok (.iload_n 1, 1) := by decide +kernel
theorem dX8_ruled_1 : decode cX8_ruled 1 = .ok (.invokestatic 71, 3) := by decide +kernel
theorem dX8_ruled_4 : decode cX8_ruled 4 = .ok (.ifCond .ne 5, 3) := by decide +kernel
theorem dX8_ruled_7 : decode cX8_ruled 7 = .ok (.iconst (-1), 1) := by decide +kernel
theorem dX8_ruled_8 : decode cX8_ruled 8 = .ok (.ireturn, 1) := by decide +kernel
theorem dX8_ruled_9 : decode cX8_ruled 9 = .ok (.iload_n 2, 1) := by decide +kernel
theorem dX8_ruled_10 : decode cX8_ruled 10 = .ok (.tableswitch 66 0 3 #[30, 39, 48, 57], 30) := by decide +kernel
theorem dX8_ruled_40 : decode cX8_ruled 40 = .ok (.aload_n 0, 1) := by decide +kernel
theorem dX8_ruled_41 : decode cX8_ruled 41 = .ok (.getfield 10, 3) := by decide +kernel
theorem dX8_ruled_44 : decode cX8_ruled 44 = .ok (.iload_n 1, 1) := by decide +kernel
theorem dX8_ruled_45 : decode cX8_ruled 45 = .ok (.invokevirtual 79, 3) := by decide +kernel
theorem dX8_ruled_48 : decode cX8_ruled 48 = .ok (.ireturn, 1) := by decide +kernel
theorem dX8_ruled_49 : decode cX8_ruled 49 = .ok (.aload_n 0, 1) := by decide +kernel
theorem dX8_ruled_50 : decode cX8_ruled 50 = .ok (.getfield 10, 3) := by decide +kernel
theorem dX8_ruled_53 : decode cX8_ruled 53 = .ok (.iload_n 1, 1) := by decide +kernel
theorem dX8_ruled_54 : decode cX8_ruled 54 = .ok (.invokevirtual 83, 3) := by decide +kernel
theorem dX8_ruled_57 : decode cX8_ruled 57 = .ok (.ireturn, 1) := by decide +kernel
theorem dX8_ruled_58 : decode cX8_ruled 58 = .ok (.aload_n 0, 1) := by decide +kernel
theorem dX8_ruled_59 : decode cX8_ruled 59 = .ok (.getfield 10, 3) := by decide +kernel
theorem dX8_ruled_62 : decode cX8_ruled 62 = .ok (.iload_n 1, 1) := by decide +kernel
theorem dX8_ruled_63 : decode cX8_ruled 63 = .ok (.invokevirtual 86, 3) := by decide +kernel
theorem dX8_ruled_66 : decode cX8_ruled 66 = .ok (.ireturn, 1) := by decide +kernel
theorem dX8_ruled_67 : decode cX8_ruled 67 = .ok (.aload_n 0, 1) := by decide +kernel
theorem dX8_ruled_68 : decode cX8_ruled 68 = .ok (.getfield 10, 3) := by decide +kernel
theorem dX8_ruled_71 : decode cX8_ruled 71 = .ok (.iload_n 1, 1) := by decide +kernel
theorem dX8_ruled_72 : decode cX8_ruled 72 = .ok (.invokevirtual 89, 3) := by decide +kernel
theorem dX8_ruled_75 : decode cX8_ruled 75 = .ok (.ireturn, 1) := by decide +kernel
theorem dX8_ruled_76 : decode cX8_ruled 76 = .ok (.iconst (-1), 1) := by decide +kernel
theorem dX8_ruled_77 : decode cX8_ruled 77 = .ok (.ireturn, 1) := by decide +kernel
set_option maxRecDepth 20000 in
theorem ggX8_meter_X8_isWorks : GoodIn wsX8_meter wsX8_isWorks := goodIn_r _ [7, 8, 9, 10, 6, 11, 30, 31, 32, 33, 34, 35, 36, 37, 38, 39, 40, 41, 42] (by decide +kernel) (by decide +kernel)
set_option maxRecDepth 20000 in
theorem gX8_meter_X8_isWorks : GoodIn wsX8_meter (wsV RX8 92 RX8 yX8_isWorks wsX8_isWorks) := goodIn_app (goodIn_of _ (by decide +kernel)) ggX8_meter_X8_isWorks
set_option maxRecDepth 20000 in
theorem ggX8_meter_X8_isYear : GoodIn wsX8_meter wsX8_isYear := goodIn_r _ [14, 9, 10, 6, 11] (by decide +kernel) (by decide +kernel)
set_option maxRecDepth 20000 in
theorem gX8_meter_X8_isYear : GoodIn wsX8_meter (va_wsS RX8 71 yX8_isYear wsX8_isYear) := goodIn_app (goodIn_of _ (by decide +kernel)) ggX8_meter_X8_isYear
set_option maxRecDepth 20000 in
theorem ggX8_meter_X8_isWithin : GoodIn wsX8_meter wsX8_isWithin := goodIn_r _ [11] (by decide +kernel) (by decide +kernel)
set_option maxRecDepth 20000 in
theorem gX8_meter_X8_isWithin : GoodIn wsX8_meter (va_wsS RX8 98 yX8_isWithin wsX8_isWithin) := goodIn_app (goodIn_of _ (by decide +kernel)) ggX8_meter_X8_isWithin
set_option maxRecDepth 20000 in
theorem ggX8_meter_X4_read : GoodIn wsX8_meter wsX4_read := goodIn_r _ [19, 20, 21, 22, 18, 23, 24, 25, 26, 27, 28, 29, 43, 44] (by decide +kernel) (by decide +kernel)
set_option maxRecDepth 20000 in
theorem gX8_meter_X4_read : GoodIn wsX8_meter (wsV RX8 101 RX4 yX4_read wsX4_read) := goodIn_app (goodIn_of _ (by decide +kernel)) ggX8_meter_X4_read
theorem dX8_meter_0 : decode cX8_meter 0 = .ok (.aload_n 0, 1) := by decide +kernel
theorem dX8_meter_1 : decode cX8_meter 1 = .ok (.iload_n 1, 1) := by decide +kernel
theorem dX8_meter_2 : decode cX8_meter 2 = .ok (.invokevirtual 92, 3) := by decide +kernel
theorem dX8_meter_5 : decode cX8_meter 5 = .ok (.ifCond .eq 31, 3) := by decide +kernel
theorem dX8_meter_8 : decode cX8_meter 8 = .ok (.iload_n 2, 1) := by decide +kernel
theorem dX8_meter_9 : decode cX8_meter 9 = .ok (.invokestatic 71, 3) := by decide +kernel
theorem dX8_meter_12 : decode cX8_meter 12 = .ok (.ifCond .eq 24, 3) := by decide +kernel
theorem dX8_meter_15 : decode cX8_meter 15 = .ok (.iload_n 2, 1) := by decide +kernel
theorem dX8_meter_16 : decode cX8_meter 16 = .ok (.aload_n 0, 1) := by decide +kernel
theorem dX8_meter_17 : decode cX8_meter 17 = .ok (.getfield 95, 3) := by decide +kernel
theorem dX8_meter_20 : decode cX8_meter 20 = .ok (.if_icmp .gt 16, 3) := by decide +kernel
theorem dX8_meter_23 : decode cX8_meter 23 = .ok (.iload_n 3, 1) := by decide +kernel
theorem dX8_meter_24 : decode cX8_meter 24 = .ok (.iconst 0, 1) := by decide +kernel
theorem dX8_meter_25 : decode cX8_meter 25 = .ok (.iconst 3, 1) := by decide +kernel
theorem dX8_meter_26 : decode cX8_meter 26 = .ok (.invokestatic 98, 3) := by decide +kernel
theorem dX8_meter_29 : decode cX8_meter 29 = .ok (.ifCond .eq 7, 3) := by decide +kernel
theorem dX8_meter_32 : decode cX8_meter 32 = .ok (.iconst 1, 1) := by decide +kernel
theorem dX8_meter_33 : decode cX8_meter 33 = .ok (.goto 4, 3) := by decide +kernel
theorem dX8_meter_36 : decode cX8_meter 36 = .ok (.iconst 0, 1) := by decide +kernel
theorem dX8_meter_37 : decode cX8_meter 37 = .ok (.istore 5, 2) := by decide +kernel
theorem dX8_meter_39 : decode cX8_meter 39 = .ok (.iload 5, 2) := by decide +kernel
theorem dX8_meter_41 : decode cX8_meter 41 = .ok (.ifCond .eq 20, 3) := by decide +kernel
theorem dX8_meter_44 : decode cX8_meter 44 = .ok (.iload 4, 2) := by decide +kernel
theorem dX8_meter_46 : decode cX8_meter 46 = .ok (.iconst (-1), 1) := by decide +kernel
theorem dX8_meter_47 : decode cX8_meter 47 = .ok (.if_icmp .eq 16, 3) := by decide +kernel
theorem dX8_meter_50 : decode cX8_meter 50 = .ok (.iload 4, 2) := by decide +kernel
theorem dX8_meter_52 : decode cX8_meter 52 = .ok (.iconst 0, 1) := by decide +kernel
theorem dX8_meter_53 : decode cX8_meter 53 = .ok (.bipush 99, 2) := by decide +kernel
theorem dX8_meter_55 : decode cX8_meter 55 = .ok (.invokestatic 98, 3) := by decide +kernel
theorem dX8_meter_58 : decode cX8_meter 58 = .ok (.ifCond .ne 5, 3) := by decide +kernel
theorem dX8_meter_61 : decode cX8_meter 61 = .ok (.iconst 0, 1) := by decide +kernel
theorem dX8_meter_62 : decode cX8_meter 62 = .ok (.ireturn, 1) := by decide +kernel
theorem dX8_meter_63 : decode cX8_meter 63 = .ok (.aload_n 0, 1) := by decide +kernel
theorem dX8_meter_64 : decode cX8_meter 64 = .ok (.getfield 19, 3) := by decide +kernel
theorem dX8_meter_67 : decode cX8_meter 67 = .ok (.iload_n 1, 1) := by decide +kernel
theorem dX8_meter_68 : decode cX8_meter 68 = .ok (.iload_n 2, 1) := by decide +kernel
theorem dX8_meter_69 : decode cX8_meter 69 = .ok (.iload_n 3, 1) := by decide +kernel
theorem dX8_meter_70 : decode cX8_meter 70 = .ok (.iload 4, 2) := by decide +kernel
theorem dX8_meter_72 : decode cX8_meter 72 = .ok (.invokevirtual 101, 3) := by decide +kernel
theorem dX8_meter_75 : decode cX8_meter 75 = .ok (.iconst 1, 1) := by decide +kernel
theorem dX8_meter_76 : decode cX8_meter 76 = .ok (.ireturn, 1) := by decide +kernel
set_option maxRecDepth 20000 in
theorem ggX8_fouled_X8_isWorks : GoodIn wsX8_fouled wsX8_isWorks := goodIn_r _ [6, 7, 8, 9, 5, 10, 41, 42, 43, 44, 45, 46, 47, 48, 49, 50, 51, 52, 53] (by decide +kernel) (by decide +kernel)
set_option maxRecDepth 20000 in
theorem gX8_fouled_X8_isWorks : GoodIn wsX8_fouled (wsV RX8 92 RX8 yX8_isWorks wsX8_isWorks) := goodIn_app (goodIn_of _ (by decide +kernel)) ggX8_fouled_X8_isWorks
set_option maxRecDepth 20000 in
theorem ggX8_fouled_X8_isYear : GoodIn wsX8_fouled wsX8_isYear := goodIn_r _ [13, 8, 9, 5, 10] (by decide +kernel) (by decide +kernel)
set_option maxRecDepth 20000 in
theorem gX8_fouled_X8_isYear : GoodIn wsX8_fouled (va_wsS RX8 71 yX8_isYear wsX8_isYear) := goodIn_app (goodIn_of _ (by decide +kernel)) ggX8_fouled_X8_isYear
set_option maxRecDepth 20000 in
theorem ggX8_fouled_X4_fouledIn : GoodIn wsX8_fouled wsX4_fouledIn := goodIn_r _ [18, 19, 20, 21, 22, 17, 23, 24, 25, 26, 27, 28, 29, 30, 31, 32, 33, 34, 35, 36, 37, 38, 39, 40, 54, 55] (by decide +kernel) (by decide +kernel)
set_option maxRecDepth 20000 in
theorem gX8_fouled_X4_fouledIn : GoodIn wsX8_fouled (wsV RX8 105 RX4 yX4_fouledIn wsX4_fouledIn) := goodIn_app (goodIn_of _ (by decide +kernel)) ggX8_fouled_X4_fouledIn
theorem dX8_fouled_0 : decode cX8_fouled 0 = .ok (.aload_n 0, 1) := by decide +kernel
theorem dX8_fouled_1 : decode cX8_fouled 1 = .ok (.iload_n 1, 1) := by decide +kernel
theorem dX8_fouled_2 : decode cX8_fouled 2 = .ok (.invokevirtual 92, 3) := by decide +kernel
theorem dX8_fouled_5 : decode cX8_fouled 5 = .ok (.ifCond .eq 22, 3) := by decide +kernel
theorem dX8_fouled_8 : decode cX8_fouled 8 = .ok (.iload_n 2, 1) := by decide +kernel
theorem dX8_fouled_9 : decode cX8_fouled 9 = .ok (.invokestatic 71, 3) := by decide +kernel
theorem dX8_fouled_12 : decode cX8_fouled 12 = .ok (.ifCond .eq 15, 3) := by decide +kernel
theorem dX8_fouled_15 : decode cX8_fouled 15 = .ok (.aload_n 0, 1) := by decide +kernel
theorem dX8_fouled_16 : decode cX8_fouled 16 = .ok (.getfield 19, 3) := by decide +kernel
theorem dX8_fouled_19 : decode cX8_fouled 19 = .ok (.iload_n 1, 1) := by decide +kernel
theorem dX8_fouled_20 : decode cX8_fouled 20 = .ok (.iload_n 2, 1) := by decide +kernel
theorem dX8_fouled_21 : decode cX8_fouled 21 = .ok (.invokevirtual 105, 3) := by decide +kernel
theorem dX8_fouled_24 : decode cX8_fouled 24 = .ok (.goto 4, 3) := by decide +kernel
theorem dX8_fouled_27 : decode cX8_fouled 27 = .ok (.iconst (-1), 1) := by decide +kernel
theorem dX8_fouled_28 : decode cX8_fouled 28 = .ok (.ireturn, 1) := by decide +kernel
set_option maxRecDepth 20000 in
theorem ggX8_issue_X8_isYear : GoodIn wsX8_issue wsX8_isYear := goodIn_r _ [11, 12, 13, 10, 14] (by decide +kernel) (by decide +kernel)
set_option maxRecDepth 20000 in
theorem gX8_issue_X8_isYear : GoodIn wsX8_issue (va_wsS RX8 71 yX8_isYear wsX8_isYear) := goodIn_app (goodIn_of _ (by decide +kernel)) ggX8_issue_X8_isYear
set_option maxRecDepth 20000 in
theorem ggX8_issue_X7_capIn : GoodIn wsX8_issue wsX7_capIn := goodIn_r _ [19, 20, 21, 22, 23, 24, 25, 18, 26, 27, 28, 29, 30, 31, 32, 33, 157, 158, 159, 160, 161, 162, 163, 164] (by decide +kernel) (by decide +kernel)
set_option maxRecDepth 20000 in
theorem gX8_issue_X7_capIn : GoodIn wsX8_issue (wsV RX8 79 RX7 yX7_capIn wsX7_capIn) := goodIn_app (goodIn_of _ (by decide +kernel)) ggX8_issue_X7_capIn
set_option maxRecDepth 20000 in
theorem ggX8_issue_X5_hasRoomFor : GoodIn wsX8_issue wsX5_hasRoomFor := goodIn_r _ [38, 39, 165, 166, 167, 168, 169, 170, 171, 172, 173, 174, 175, 176] (by decide +kernel) (by decide +kernel)
set_option maxRecDepth 20000 in
theorem gX8_issue_X5_hasRoomFor : GoodIn wsX8_issue (wsV RX8 113 RX5 yX5_hasRoomFor wsX5_hasRoomFor) := goodIn_app (goodIn_of _ (by decide +kernel)) ggX8_issue_X5_hasRoomFor
set_option maxRecDepth 20000 in
theorem ggX8_issue_X7_shareIn : GoodIn wsX8_issue wsX7_shareIn := goodIn_r _ [43, 44, 23, 24, 25, 18, 26, 27, 21, 28, 29, 30, 31, 32, 33, 157, 158, 159, 160, 161, 162, 163, 164] (by decide +kernel) (by decide +kernel)
set_option maxRecDepth 20000 in
theorem gX8_issue_X7_shareIn : GoodIn wsX8_issue (wsV RX8 83 RX7 yX7_shareIn wsX7_shareIn) := goodIn_app (goodIn_of _ (by decide +kernel)) ggX8_issue_X7_shareIn
set_option maxRecDepth 20000 in
theorem ggX8_issue_X0_share : GoodIn wsX8_issue wsX0_share := goodIn_r _ [49, 50, 51, 52, 53, 54, 55, 48, 56, 57, 58, 59, 60, 61, 62, 63, 64, 65, 66, 67, 68, 69, 70, 71, 72, 73, 74, 75, 76, 77, 78, 29, 30, 31, 32, 33, 79, 80, 81, 82, 83, 84, 85, 86, 87, 88, 89, 90, 91, 92, 93, 94, 95, 96, 97, 177, 178, 179, 180, 164] (by decide +kernel) (by decide +kernel)
set_option maxRecDepth 20000 in
theorem gX8_issue_X0_share : GoodIn wsX8_issue (wsV RX8 116 RX0 yX0_share wsX0_share) := goodIn_app (goodIn_of _ (by decide +kernel)) ggX8_issue_X0_share
set_option maxRecDepth 20000 in
theorem ggX8_issue_X0_partOf : GoodIn wsX8_issue wsX0_partOf := goodIn_r _ [101, 51, 83, 29, 30, 31, 32, 33, 177, 178, 179, 164] (by decide +kernel) (by decide +kernel)
set_option maxRecDepth 20000 in
theorem gX8_issue_X0_partOf : GoodIn wsX8_issue (wsV RX8 120 RX0 yX0_partOf wsX0_partOf) := goodIn_app (goodIn_of _ (by decide +kernel)) ggX8_issue_X0_partOf
set_option maxRecDepth 20000 in
theorem ggX8_issue_X5_come : GoodIn wsX8_issue wsX5_come := goodIn_r _ [105, 39, 106, 107, 108, 109, 110, 111, 112, 113, 114, 115, 37, 116, 117, 118, 68, 69, 70, 119, 120, 121, 122, 123, 124, 31, 125, 33, 126, 127, 128, 129, 130, 131, 132, 133, 134, 135, 136, 137, 138, 139, 140, 141, 142, 80, 81, 82, 143, 93, 94, 95, 96, 29, 30, 32, 97, 165, 166, 167, 168, 169, 170, 171, 172, 173, 174, 175, 176, 164] (by decide +kernel) (by decide +kernel)
set_option maxRecDepth 20000 in
theorem gX8_issue_X5_come : GoodIn wsX8_issue (wsV RX8 123 RX5 yX5_come wsX5_come) := goodIn_app (goodIn_of _ (by decide +kernel)) ggX8_issue_X5_come
theorem dX8_issue_0 : decode cX8_issue 0 = .ok (.aload_n 0, 1) := by decide +kernel
theorem dX8_issue_1 : decode cX8_issue 1 = .ok (.getfield 95, 3) := by decide +kernel
theorem dX8_issue_4 : decode cX8_issue 4 = .ok (.invokestatic 71, 3) := by decide +kernel
theorem dX8_issue_7 : decode cX8_issue 7 = .ok (.ifCond .eq 10, 3) := by decide +kernel
theorem dX8_issue_10 : decode cX8_issue 10 = .ok (.aload_n 0, 1) := by decide +kernel
theorem dX8_issue_11 : decode cX8_issue 11 = .ok (.getfield 109, 3) := by decide +kernel
theorem dX8_issue_14 : decode cX8_issue 14 = .ok (.ifCond .eq 5, 3) := by decide +kernel
theorem dX8_issue_17 : decode cX8_issue 17 = .ok (.iconst (-1), 1) := by decide +kernel
theorem dX8_issue_18 : decode cX8_issue 18 = .ok (.ireturn, 1) := by decide +kernel
theorem dX8_issue_19 : decode cX8_issue 19 = .ok (.aload_n 0, 1) := by decide +kernel
theorem dX8_issue_20 : decode cX8_issue 20 = .ok (.getfield 10, 3) := by decide +kernel
theorem dX8_issue_23 : decode cX8_issue 23 = .ok (.aload_n 0, 1) := by decide +kernel
theorem dX8_issue_24 : decode cX8_issue 24 = .ok (.getfield 95, 3) := by decide +kernel
theorem dX8_issue_27 : decode cX8_issue 27 = .ok (.invokevirtual 79, 3) := by decide +kernel
theorem dX8_issue_30 : decode cX8_issue 30 = .ok (.istore_n 1, 1) := by decide +kernel
theorem dX8_issue_31 : decode cX8_issue 31 = .ok (.aload_n 0, 1) := by decide +kernel
theorem dX8_issue_32 : decode cX8_issue 32 = .ok (.getfield 26, 3) := by decide +kernel
theorem dX8_issue_35 : decode cX8_issue 35 = .ok (.iload_n 1, 1) := by decide +kernel
theorem dX8_issue_36 : decode cX8_issue 36 = .ok (.invokevirtual 113, 3) := by decide +kernel
theorem dX8_issue_39 : decode cX8_issue 39 = .ok (.ifCond .ne 5, 3) := by decide +kernel
theorem dX8_issue_42 : decode cX8_issue 42 = .ok (.iconst (-1), 1) := by decide +kernel
theorem dX8_issue_43 : decode cX8_issue 43 = .ok (.ireturn, 1) := by decide +kernel
theorem dX8_issue_44 : decode cX8_issue 44 = .ok (.aload_n 0, 1) := by decide +kernel
theorem dX8_issue_45 : decode cX8_issue 45 = .ok (.getfield 33, 3) := by decide +kernel
theorem dX8_issue_48 : decode cX8_issue 48 = .ok (.iload_n 1, 1) := by decide +kernel
theorem dX8_issue_49 : decode cX8_issue 49 = .ok (.aload_n 0, 1) := by decide +kernel
theorem dX8_issue_50 : decode cX8_issue 50 = .ok (.getfield 10, 3) := by decide +kernel
theorem dX8_issue_53 : decode cX8_issue 53 = .ok (.aload_n 0, 1) := by decide +kernel
theorem dX8_issue_54 : decode cX8_issue 54 = .ok (.getfield 95, 3) := by decide +kernel
theorem dX8_issue_57 : decode cX8_issue 57 = .ok (.invokevirtual 83, 3) := by decide +kernel
theorem dX8_issue_60 : decode cX8_issue 60 = .ok (.imul, 1) := by decide +kernel
theorem dX8_issue_61 : decode cX8_issue 61 = .ok (.bipush 100, 2) := by decide +kernel
theorem dX8_issue_63 : decode cX8_issue 63 = .ok (.idiv, 1) := by decide +kernel
theorem dX8_issue_64 : decode cX8_issue 64 = .ok (.aload_n 0, 1) := by decide +kernel
theorem dX8_issue_65 : decode cX8_issue 65 = .ok (.getfield 19, 3) := by decide +kernel
theorem dX8_issue_68 : decode cX8_issue 68 = .ok (.aload_n 0, 1) := by decide +kernel
theorem dX8_issue_69 : decode cX8_issue 69 = .ok (.getfield 67, 3) := by decide +kernel
theorem dX8_issue_72 : decode cX8_issue 72 = .ok (.aload_n 0, 1) := by decide +kernel
theorem dX8_issue_73 : decode cX8_issue 73 = .ok (.getfield 95, 3) := by decide +kernel
theorem dX8_issue_76 : decode cX8_issue 76 = .ok (.invokevirtual 116, 3) := by decide +kernel
theorem dX8_issue_79 : decode cX8_issue 79 = .ok (.istore_n 2, 1) := by decide +kernel
theorem dX8_issue_80 : decode cX8_issue 80 = .ok (.iconst 0, 1) := by decide +kernel
theorem dX8_issue_81 : decode cX8_issue 81 = .ok (.istore_n 3, 1) := by decide +kernel
theorem dX8_issue_82 : decode cX8_issue 82 = .ok (.iload_n 3, 1) := by decide +kernel
theorem dX8_issue_83 : decode cX8_issue 83 = .ok (.aload_n 0, 1) := by decide +kernel
theorem dX8_issue_84 : decode cX8_issue 84 = .ok (.getfield 67, 3) := by decide +kernel
theorem dX8_issue_87 : decode cX8_issue 87 = .ok (.if_icmp .ge 30, 3) := by decide +kernel
theorem dX8_issue_90 : decode cX8_issue 90 = .ok (.aload_n 0, 1) := by decide +kernel
theorem dX8_issue_91 : decode cX8_issue 91 = .ok (.getfield 26, 3) := by decide +kernel
theorem dX8_issue_94 : decode cX8_issue 94 = .ok (.aload_n 0, 1) := by decide +kernel
theorem dX8_issue_95 : decode cX8_issue 95 = .ok (.getfield 33, 3) := by decide +kernel
theorem dX8_issue_98 : decode cX8_issue 98 = .ok (.iload_n 3, 1) := by decide +kernel
theorem dX8_issue_99 : decode cX8_issue 99 = .ok (.invokevirtual 120, 3) := by decide +kernel
theorem dX8_issue_102 : decode cX8_issue 102 = .ok (.iload_n 3, 1) := by decide +kernel
theorem dX8_issue_103 : decode cX8_issue 103 = .ok (.aload_n 0, 1) := by decide +kernel
theorem dX8_issue_104 : decode cX8_issue 104 = .ok (.getfield 95, 3) := by decide +kernel
theorem dX8_issue_107 : decode cX8_issue 107 = .ok (.iconst (-1), 1) := by decide +kernel
theorem dX8_issue_108 : decode cX8_issue 108 = .ok (.invokevirtual 123, 3) := by decide +kernel
theorem dX8_issue_111 : decode cX8_issue 111 = .ok (.iinc 3 1, 3) := by decide +kernel
theorem dX8_issue_114 : decode cX8_issue 114 = .ok (.goto (-32), 3) := by decide +kernel
theorem dX8_issue_117 : decode cX8_issue 117 = .ok (.aload_n 0, 1) := by decide +kernel
theorem dX8_issue_118 : decode cX8_issue 118 = .ok (.getfield 26, 3) := by decide +kernel
theorem dX8_issue_121 : decode cX8_issue 121 = .ok (.iload_n 1, 1) := by decide +kernel
theorem dX8_issue_122 : decode cX8_issue 122 = .ok (.iload_n 2, 1) := by decide +kernel
theorem dX8_issue_123 : decode cX8_issue 123 = .ok (.isub, 1) := by decide +kernel
theorem dX8_issue_124 : decode cX8_issue 124 = .ok (.iconst (-1), 1) := by decide +kernel
theorem dX8_issue_125 : decode cX8_issue 125 = .ok (.aload_n 0, 1) := by decide +kernel
theorem dX8_issue_126 : decode cX8_issue 126 = .ok (.getfield 95, 3) := by decide +kernel
theorem dX8_issue_129 : decode cX8_issue 129 = .ok (.iconst (-1), 1) := by decide +kernel
theorem dX8_issue_130 : decode cX8_issue 130 = .ok (.invokevirtual 123, 3) := by decide +kernel
theorem dX8_issue_133 : decode cX8_issue 133 = .ok (.aload_n 0, 1) := by decide +kernel
theorem dX8_issue_134 : decode cX8_issue 134 = .ok (.iconst 1, 1) := by decide +kernel
theorem dX8_issue_135 : decode cX8_issue 135 = .ok (.putfield 109, 3) := by decide +kernel
theorem dX8_issue_138 : decode cX8_issue 138 = .ok (.iload_n 1, 1) := by decide +kernel
theorem dX8_issue_139 : decode cX8_issue 139 = .ok (.ireturn, 1) := by decide +kernel
set_option maxRecDepth 20000 in
theorem ggX8_bid_X8_isWorks : GoodIn wsX8_bid wsX8_isWorks := goodIn_r _ [6, 7, 8, 9, 5, 10, 41, 42, 43, 44, 45, 46, 47, 48, 49, 50, 51, 52, 53] (by decide +kernel) (by decide +kernel)
set_option maxRecDepth 20000 in
theorem gX8_bid_X8_isWorks : GoodIn wsX8_bid (wsV RX8 92 RX8 yX8_isWorks wsX8_isWorks) := goodIn_app (goodIn_of _ (by decide +kernel)) ggX8_bid_X8_isWorks
set_option maxRecDepth 20000 in
theorem ggX8_bid_X8_isWithin : GoodIn wsX8_bid wsX8_isWithin := goodIn_r _ [10] (by decide +kernel) (by decide +kernel)
set_option maxRecDepth 20000 in
theorem gX8_bid_X8_isWithin : GoodIn wsX8_bid (va_wsS RX8 98 yX8_isWithin wsX8_isWithin) := goodIn_app (goodIn_of _ (by decide +kernel)) ggX8_bid_X8_isWithin
set_option maxRecDepth 20000 in
theorem ggX8_bid_X1_areFull : GoodIn wsX8_bid wsX1_areFull := goodIn_r _ [15, 16, 54, 55, 56, 57, 58] (by decide +kernel) (by decide +kernel)
set_option maxRecDepth 20000 in
theorem gX8_bid_X1_areFull : GoodIn wsX8_bid (wsV RX8 126 RX1 yX1_areFull wsX1_areFull) := goodIn_app (goodIn_of _ (by decide +kernel)) ggX8_bid_X1_areFull
set_option maxRecDepth 20000 in
theorem ggX8_bid_X1_enter : GoodIn wsX8_bid wsX1_enter := goodIn_r _ [20, 16, 21, 22, 23, 24, 25, 26, 27, 28, 29, 30, 31, 32, 33, 34, 35, 36, 37, 38, 39, 40, 54, 55, 56, 57, 58, 59] (by decide +kernel) (by decide +kernel)
set_option maxRecDepth 20000 in
theorem gX8_bid_X1_enter : GoodIn wsX8_bid (wsV RX8 130 RX1 yX1_enter wsX1_enter) := goodIn_app (goodIn_of _ (by decide +kernel)) ggX8_bid_X1_enter
theorem dX8_bid_0 : decode cX8_bid 0 = .ok (.aload_n 0, 1) := by decide +kernel
theorem dX8_bid_1 : decode cX8_bid 1 = .ok (.iload_n 1, 1) := by decide +kernel
theorem dX8_bid_2 : decode cX8_bid 2 = .ok (.invokevirtual 92, 3) := by decide +kernel
theorem dX8_bid_5 : decode cX8_bid 5 = .ok (.ifCond .eq 35, 3) := by decide +kernel
theorem dX8_bid_8 : decode cX8_bid 8 = .ok (.iload_n 2, 1) := by decide +kernel
theorem dX8_bid_9 : decode cX8_bid 9 = .ok (.iconst 1, 1) := by decide +kernel
theorem dX8_bid_10 : decode cX8_bid 10 = .ok (.sipush 400, 3) := by decide +kernel
theorem dX8_bid_13 : decode cX8_bid 13 = .ok (.invokestatic 98, 3) := by decide +kernel
theorem dX8_bid_16 : decode cX8_bid 16 = .ok (.ifCond .eq 24, 3) := by decide +kernel
theorem dX8_bid_19 : decode cX8_bid 19 = .ok (.iload_n 3, 1) := by decide +kernel
theorem dX8_bid_20 : decode cX8_bid 20 = .ok (.iconst 0, 1) := by decide +kernel
theorem dX8_bid_21 : decode cX8_bid 21 = .ok (.sipush 999, 3) := by decide +kernel
theorem dX8_bid_24 : decode cX8_bid 24 = .ok (.invokestatic 98, 3) := by decide +kernel
theorem dX8_bid_27 : decode cX8_bid 27 = .ok (.ifCond .eq 13, 3) := by decide +kernel
theorem dX8_bid_30 : decode cX8_bid 30 = .ok (.aload_n 0, 1) := by decide +kernel
theorem dX8_bid_31 : decode cX8_bid 31 = .ok (.getfield 40, 3) := by decide +kernel
theorem dX8_bid_34 : decode cX8_bid 34 = .ok (.invokevirtual 126, 3) := by decide +kernel
theorem dX8_bid_37 : decode cX8_bid 37 = .ok (.ifCond .eq 5, 3) := by decide +kernel
theorem dX8_bid_40 : decode cX8_bid 40 = .ok (.iconst (-1), 1) := by decide +kernel
theorem dX8_bid_41 : decode cX8_bid 41 = .ok (.ireturn, 1) := by decide +kernel
theorem dX8_bid_42 : decode cX8_bid 42 = .ok (.aload_n 0, 1) := by decide +kernel
theorem dX8_bid_43 : decode cX8_bid 43 = .ok (.getfield 40, 3) := by decide +kernel
theorem dX8_bid_46 : decode cX8_bid 46 = .ok (.iload_n 1, 1) := by decide +kernel
theorem dX8_bid_47 : decode cX8_bid 47 = .ok (.iload_n 2, 1) := by decide +kernel
theorem dX8_bid_48 : decode cX8_bid 48 = .ok (.iload_n 3, 1) := by decide +kernel
theorem dX8_bid_49 : decode cX8_bid 49 = .ok (.invokevirtual 130, 3) := by decide +kernel
theorem dX8_bid_52 : decode cX8_bid 52 = .ok (.ireturn, 1) := by decide +kernel
set_option maxRecDepth 20000 in
theorem ggX8_auction_X5_heldBy : GoodIn wsX8_auction wsX5_heldBy := goodIn_r _ [11, 12, 13, 14, 15, 16, 17, 18, 125, 126, 127, 128, 129, 130, 131, 132, 133, 134, 135, 136, 137] (by decide +kernel) (by decide +kernel)
set_option maxRecDepth 20000 in
theorem gX8_auction_X5_heldBy : GoodIn wsX8_auction (wsV RX8 134 RX5 yX5_heldBy wsX5_heldBy) := goodIn_app (goodIn_of _ (by decide +kernel)) ggX8_auction_X5_heldBy
set_option maxRecDepth 20000 in
theorem ggX8_auction_X7_floorIn : GoodIn wsX8_auction wsX7_floorIn := goodIn_r _ [23, 24, 25, 26, 27, 22, 28, 29, 30, 31, 14, 15, 16, 17, 18, 138, 139, 140, 141, 142, 143, 144, 137] (by decide +kernel) (by decide +kernel)
set_option maxRecDepth 20000 in
theorem gX8_auction_X7_floorIn : GoodIn wsX8_auction (wsV RX8 89 RX7 yX7_floorIn wsX7_floorIn) := goodIn_app (goodIn_of _ (by decide +kernel)) ggX8_auction_X7_floorIn
set_option maxRecDepth 20000 in
theorem ggX8_auction_X8_hammer : GoodIn wsX8_auction wsX8_hammer := goodIn_r _ [36, 4, 1, 37, 38, 39, 40, 41, 42, 43, 44, 45, 46, 47, 48, 49, 50, 51, 52, 14, 15, 16, 17, 18, 53, 54, 55, 56, 57, 7, 8, 9, 10, 11, 12, 13, 58, 59, 60, 61, 62, 63, 64, 65, 66, 67, 68, 69, 70, 71, 72, 73, 74, 75, 76, 77, 78, 79, 80, 81, 82, 83, 84, 85, 86, 87, 88, 89, 90, 91, 92, 93, 94, 95, 96, 112, 113, 114, 115, 116, 117, 118, 119, 120, 121, 122, 123, 124, 145, 146, 147, 148, 149, 137, 125, 126, 127, 128, 129, 130, 131, 132, 133, 134, 135, 136] (by decide +kernel) (by decide +kernel)
set_option maxRecDepth 20000 in
theorem gX8_auction_X8_hammer : GoodIn wsX8_auction (wsV RX8 137 RX8 yX8_hammer wsX8_hammer) := goodIn_app (goodIn_of _ (by decide +kernel)) ggX8_auction_X8_hammer
set_option maxRecDepth 20000 in
theorem ggX8_auction_X1_many : GoodIn wsX8_auction wsX1_many := goodIn_r _ [45, 46, 145, 146, 147, 148, 149] (by decide +kernel) (by decide +kernel)
set_option maxRecDepth 20000 in
theorem gX8_auction_X1_many : GoodIn wsX8_auction (wsV RX8 140 RX1 yX1_many wsX1_many) := goodIn_app (goodIn_of _ (by decide +kernel)) ggX8_auction_X1_many
set_option maxRecDepth 20000 in
theorem ggX8_auction_X1_got : GoodIn wsX8_auction wsX1_got := goodIn_r _ [100, 95, 52, 14, 15, 16, 17, 18, 145, 146, 147, 148, 149, 137] (by decide +kernel) (by decide +kernel)
set_option maxRecDepth 20000 in
theorem gX8_auction_X1_got : GoodIn wsX8_auction (wsV RX8 144 RX1 yX1_got wsX1_got) := goodIn_app (goodIn_of _ (by decide +kernel)) ggX8_auction_X1_got
set_option maxRecDepth 20000 in
theorem ggX8_auction_X1_who : GoodIn wsX8_auction wsX1_who := goodIn_r _ [61, 62, 52, 14, 15, 16, 17, 18, 145, 146, 147, 148, 149, 137] (by decide +kernel) (by decide +kernel)
set_option maxRecDepth 20000 in
theorem gX8_auction_X1_who : GoodIn wsX8_auction (wsV RX8 147 RX1 yX1_who wsX1_who) := goodIn_app (goodIn_of _ (by decide +kernel)) ggX8_auction_X1_who
set_option maxRecDepth 20000 in
theorem ggX8_auction_X3_earn : GoodIn wsX8_auction wsX3_earn := goodIn_r _ [105, 106, 107, 86, 87, 16, 88, 89, 14, 15, 17, 18, 90, 82, 83, 84, 150, 151, 152, 153, 154, 137] (by decide +kernel) (by decide +kernel)
set_option maxRecDepth 20000 in
theorem gX8_auction_X3_earn : GoodIn wsX8_auction (wsV RX8 150 RX3 yX3_earn wsX3_earn) := goodIn_app (goodIn_of _ (by decide +kernel)) ggX8_auction_X3_earn
set_option maxRecDepth 20000 in
theorem ggX8_auction_X1_forget : GoodIn wsX8_auction wsX1_forget := goodIn_r _ [111, 46, 145, 146, 147, 148, 149] (by decide +kernel) (by decide +kernel)
set_option maxRecDepth 20000 in
theorem gX8_auction_X1_forget : GoodIn wsX8_auction (wsV RX8 156 RX1 yX1_forget wsX1_forget) := goodIn_app (goodIn_of _ (by decide +kernel)) ggX8_auction_X1_forget
theorem dX8_auction_0 : decode cX8_auction 0 = .ok (.aload_n 0, 1) := by decide +kernel
theorem dX8_auction_1 : decode cX8_auction 1 = .ok (.getfield 26, 3) := by decide +kernel
theorem dX8_auction_4 : decode cX8_auction 4 = .ok (.iconst (-1), 1) := by decide +kernel
theorem dX8_auction_5 : decode cX8_auction 5 = .ok (.invokevirtual 134, 3) := by decide +kernel
theorem dX8_auction_8 : decode cX8_auction 8 = .ok (.ifCond .ne 5, 3) := by decide +kernel
theorem dX8_auction_11 : decode cX8_auction 11 = .ok (.iconst (-1), 1) := by decide +kernel
theorem dX8_auction_12 : decode cX8_auction 12 = .ok (.ireturn, 1) := by decide +kernel
theorem dX8_auction_13 : decode cX8_auction 13 = .ok (.aload_n 0, 1) := by decide +kernel
theorem dX8_auction_14 : decode cX8_auction 14 = .ok (.getfield 10, 3) := by decide +kernel
theorem dX8_auction_17 : decode cX8_auction 17 = .ok (.aload_n 0, 1) := by decide +kernel
theorem dX8_auction_18 : decode cX8_auction 18 = .ok (.getfield 95, 3) := by decide +kernel
theorem dX8_auction_21 : decode cX8_auction 21 = .ok (.invokevirtual 89, 3) := by decide +kernel
theorem dX8_auction_24 : decode cX8_auction 24 = .ok (.istore_n 1, 1) := by decide +kernel
theorem dX8_auction_25 : decode cX8_auction 25 = .ok (.aload_n 0, 1) := by decide +kernel
theorem dX8_auction_26 : decode cX8_auction 26 = .ok (.iload_n 1, 1) := by decide +kernel
theorem dX8_auction_27 : decode cX8_auction 27 = .ok (.invokevirtual 137, 3) := by decide +kernel
theorem dX8_auction_30 : decode cX8_auction 30 = .ok (.istore_n 2, 1) := by decide +kernel
theorem dX8_auction_31 : decode cX8_auction 31 = .ok (.iconst 0, 1) := by decide +kernel
theorem dX8_auction_32 : decode cX8_auction 32 = .ok (.istore_n 3, 1) := by decide +kernel
theorem dX8_auction_33 : decode cX8_auction 33 = .ok (.iload_n 3, 1) := by decide +kernel
theorem dX8_auction_34 : decode cX8_auction 34 = .ok (.aload_n 0, 1) := by decide +kernel
theorem dX8_auction_35 : decode cX8_auction 35 = .ok (.getfield 40, 3) := by decide +kernel
theorem dX8_auction_38 : decode cX8_auction 38 = .ok (.invokevirtual 140, 3) := by decide +kernel
theorem dX8_auction_41 : decode cX8_auction 41 = .ok (.if_icmp .ge 50, 3) := by decide +kernel
theorem dX8_auction_44 : decode cX8_auction 44 = .ok (.aload_n 0, 1) := by decide +kernel
theorem dX8_auction_45 : decode cX8_auction 45 = .ok (.getfield 40, 3) := by decide +kernel
theorem dX8_auction_48 : decode cX8_auction 48 = .ok (.iload_n 3, 1) := by decide +kernel
theorem dX8_auction_49 : decode cX8_auction 49 = .ok (.invokevirtual 144, 3) := by decide +kernel
theorem dX8_auction_52 : decode cX8_auction 52 = .ok (.iload_n 2, 1) := by decide +kernel
theorem dX8_auction_53 : decode cX8_auction 53 = .ok (.imul, 1) := by decide +kernel
theorem dX8_auction_54 : decode cX8_auction 54 = .ok (.istore 4, 2) := by decide +kernel
theorem dX8_auction_56 : decode cX8_auction 56 = .ok (.aload_n 0, 1) := by decide +kernel
theorem dX8_auction_57 : decode cX8_auction 57 = .ok (.getfield 54, 3) := by decide +kernel
theorem dX8_auction_60 : decode cX8_auction 60 = .ok (.aload_n 0, 1) := by decide +kernel
theorem dX8_auction_61 : decode cX8_auction 61 = .ok (.getfield 40, 3) := by decide +kernel
theorem dX8_auction_64 : decode cX8_auction 64 = .ok (.iload_n 3, 1) := by decide +kernel
theorem dX8_auction_65 : decode cX8_auction 65 = .ok (.invokevirtual 147, 3) := by decide +kernel
theorem dX8_auction_68 : decode cX8_auction 68 = .ok (.iload 4, 2) := by decide +kernel
theorem dX8_auction_70 : decode cX8_auction 70 = .ok (.ineg, 1) := by decide +kernel
theorem dX8_auction_71 : decode cX8_auction 71 = .ok (.invokevirtual 150, 3) := by decide +kernel
theorem dX8_auction_74 : decode cX8_auction 74 = .ok (.aload_n 0, 1) := by decide +kernel
theorem dX8_auction_75 : decode cX8_auction 75 = .ok (.dup, 1) := by decide +kernel
theorem dX8_auction_76 : decode cX8_auction 76 = .ok (.getfield 153, 3) := by decide +kernel
theorem dX8_auction_79 : decode cX8_auction 79 = .ok (.iload 4, 2) := by decide +kernel
theorem dX8_auction_81 : decode cX8_auction 81 = .ok (.iadd, 1) := by decide +kernel
theorem dX8_auction_82 : decode cX8_auction 82 = .ok (.putfield 153, 3) := by decide +kernel
theorem dX8_auction_85 : decode cX8_auction 85 = .ok (.iinc 3 1, 3) := by decide +kernel
theorem dX8_auction_88 : decode cX8_auction 88 = .ok (.goto (-55), 3) := by decide +kernel
theorem dX8_auction_91 : decode cX8_auction 91 = .ok (.aload_n 0, 1) := by decide +kernel
theorem dX8_auction_92 : decode cX8_auction 92 = .ok (.getfield 40, 3) := by decide +kernel
theorem dX8_auction_95 : decode cX8_auction 95 = .ok (.invokevirtual 156, 3) := by decide +kernel
theorem dX8_auction_98 : decode cX8_auction 98 = .ok (.iload_n 2, 1) := by decide +kernel
theorem dX8_auction_99 : decode cX8_auction 99 = .ok (.ireturn, 1) := by decide +kernel
set_option maxRecDepth 20000 in
theorem ggX8_trade_X8_isWorks : GoodIn wsX8_trade wsX8_isWorks := goodIn_r _ [8, 9, 10, 11, 7, 12, 67, 68, 69, 70, 71, 72, 73, 74, 75, 76, 77, 78, 79] (by decide +kernel) (by decide +kernel)
set_option maxRecDepth 20000 in
theorem gX8_trade_X8_isWorks : GoodIn wsX8_trade (wsV RX8 92 RX8 yX8_isWorks wsX8_isWorks) := goodIn_app (goodIn_of _ (by decide +kernel)) ggX8_trade_X8_isWorks
set_option maxRecDepth 20000 in
theorem ggX8_trade_X8_isWithin : GoodIn wsX8_trade wsX8_isWithin := goodIn_r _ [12] (by decide +kernel) (by decide +kernel)
set_option maxRecDepth 20000 in
theorem gX8_trade_X8_isWithin : GoodIn wsX8_trade (va_wsS RX8 98 yX8_isWithin wsX8_isWithin) := goodIn_app (goodIn_of _ (by decide +kernel)) ggX8_trade_X8_isWithin
set_option maxRecDepth 20000 in
theorem ggX8_trade_X8_holdsAsMany : GoodIn wsX8_trade wsX8_holdsAsMany := goodIn_r _ [16, 2, 4, 5, 6, 7, 8, 9, 10, 11, 12, 17, 18, 19, 20, 21, 22, 23, 24, 25, 26, 27, 28, 67, 68, 69, 70, 71, 72, 73, 74, 75, 76, 77, 78, 79, 80, 81, 82, 83, 84, 85, 86, 87, 88, 89, 90, 91, 92] (by decide +kernel) (by decide +kernel)
set_option maxRecDepth 20000 in
theorem gX8_trade_X8_holdsAsMany : GoodIn wsX8_trade (wsV RX8 160 RX8 yX8_holdsAsMany wsX8_holdsAsMany) := goodIn_app (goodIn_of _ (by decide +kernel)) ggX8_trade_X8_holdsAsMany
set_option maxRecDepth 20000 in
theorem ggX8_trade_X5_pass : GoodIn wsX8_trade wsX5_pass := goodIn_r _ [32, 33, 34, 35, 36, 37, 38, 39, 22, 40, 41, 42, 20, 43, 44, 23, 24, 25, 26, 27, 28, 45, 46, 47, 48, 49, 50, 51, 52, 53, 54, 55, 56, 57, 58, 59, 80, 81, 82, 83, 84, 85, 86, 87, 88, 89, 90, 91, 92] (by decide +kernel) (by decide +kernel)
set_option maxRecDepth 20000 in
theorem gX8_trade_X5_pass : GoodIn wsX8_trade (wsV RX8 164 RX5 yX5_pass wsX5_pass) := goodIn_app (goodIn_of _ (by decide +kernel)) ggX8_trade_X5_pass
set_option maxRecDepth 20000 in
theorem ggX8_trade_X3_earn : GoodIn wsX8_trade wsX3_earn := goodIn_r _ [64, 65, 66, 55, 56, 26, 57, 58, 24, 25, 27, 28, 59, 51, 52, 53, 93, 94, 95, 96, 97, 92] (by decide +kernel) (by decide +kernel)
set_option maxRecDepth 20000 in
theorem gX8_trade_X3_earn : GoodIn wsX8_trade (wsV RX8 150 RX3 yX3_earn wsX3_earn) := goodIn_app (goodIn_of _ (by decide +kernel)) ggX8_trade_X3_earn
theorem dX8_trade_0 : decode cX8_trade 0 = .ok (.aload_n 0, 1) := by decide +kernel
theorem dX8_trade_1 : decode cX8_trade 1 = .ok (.iload_n 2, 1) := by decide +kernel
theorem dX8_trade_2 : decode cX8_trade 2 = .ok (.invokevirtual 92, 3) := by decide +kernel
theorem dX8_trade_5 : decode cX8_trade 5 = .ok (.ifCond .eq 28, 3) := by decide +kernel
theorem dX8_trade_8 : decode cX8_trade 8 = .ok (.iload_n 1, 1) := by decide +kernel
theorem dX8_trade_9 : decode cX8_trade 9 = .ok (.iload_n 2, 1) := by decide +kernel
theorem dX8_trade_10 : decode cX8_trade 10 = .ok (.if_icmp .eq 23, 3) := by decide +kernel
theorem dX8_trade_13 : decode cX8_trade 13 = .ok (.iload 4, 2) := by decide +kernel
theorem dX8_trade_15 : decode cX8_trade 15 = .ok (.iconst 0, 1) := by decide +kernel
theorem dX8_trade_16 : decode cX8_trade 16 = .ok (.ldc 159, 2) := by decide +kernel
theorem dX8_trade_18 : decode cX8_trade 18 = .ok (.invokestatic 98, 3) := by decide +kernel
theorem dX8_trade_21 : decode cX8_trade 21 = .ok (.ifCond .eq 12, 3) := by decide +kernel
theorem dX8_trade_24 : decode cX8_trade 24 = .ok (.aload_n 0, 1) := by decide +kernel
theorem dX8_trade_25 : decode cX8_trade 25 = .ok (.iload_n 1, 1) := by decide +kernel
theorem dX8_trade_26 : decode cX8_trade 26 = .ok (.iload_n 3, 1) := by decide +kernel
theorem dX8_trade_27 : decode cX8_trade 27 = .ok (.invokevirtual 160, 3) := by decide +kernel
theorem dX8_trade_30 : decode cX8_trade 30 = .ok (.ifCond .ne 5, 3) := by decide +kernel
theorem dX8_trade_33 : decode cX8_trade 33 = .ok (.iconst 0, 1) := by decide +kernel
theorem dX8_trade_34 : decode cX8_trade 34 = .ok (.ireturn, 1) := by decide +kernel
theorem dX8_trade_35 : decode cX8_trade 35 = .ok (.aload_n 0, 1) := by decide +kernel
theorem dX8_trade_36 : decode cX8_trade 36 = .ok (.getfield 26, 3) := by decide +kernel
theorem dX8_trade_39 : decode cX8_trade 39 = .ok (.iload_n 1, 1) := by decide +kernel
theorem dX8_trade_40 : decode cX8_trade 40 = .ok (.iload_n 2, 1) := by decide +kernel
theorem dX8_trade_41 : decode cX8_trade 41 = .ok (.iload_n 3, 1) := by decide +kernel
theorem dX8_trade_42 : decode cX8_trade 42 = .ok (.invokevirtual 164, 3) := by decide +kernel
theorem dX8_trade_45 : decode cX8_trade 45 = .ok (.aload_n 0, 1) := by decide +kernel
theorem dX8_trade_46 : decode cX8_trade 46 = .ok (.getfield 54, 3) := by decide +kernel
theorem dX8_trade_49 : decode cX8_trade 49 = .ok (.iload_n 1, 1) := by decide +kernel
theorem dX8_trade_50 : decode cX8_trade 50 = .ok (.iload 4, 2) := by decide +kernel
theorem dX8_trade_52 : decode cX8_trade 52 = .ok (.invokevirtual 150, 3) := by decide +kernel
theorem dX8_trade_55 : decode cX8_trade 55 = .ok (.aload_n 0, 1) := by decide +kernel
theorem dX8_trade_56 : decode cX8_trade 56 = .ok (.getfield 54, 3) := by decide +kernel
theorem dX8_trade_59 : decode cX8_trade 59 = .ok (.iload_n 2, 1) := by decide +kernel
theorem dX8_trade_60 : decode cX8_trade 60 = .ok (.iload 4, 2) := by decide +kernel
theorem dX8_trade_62 : decode cX8_trade 62 = .ok (.ineg, 1) := by decide +kernel
theorem dX8_trade_63 : decode cX8_trade 63 = .ok (.invokevirtual 150, 3) := by decide +kernel
theorem dX8_trade_66 : decode cX8_trade 66 = .ok (.iconst 1, 1) := by decide +kernel
theorem dX8_trade_67 : decode cX8_trade 67 = .ok (.ireturn, 1) := by decide +kernel
set_option maxRecDepth 20000 in
theorem ggX8_offset_X8_isWorks : GoodIn wsX8_offset wsX8_isWorks := goodIn_r _ [8, 9, 10, 11, 7, 12, 80, 81, 82, 83, 84, 85, 86, 87, 88, 89, 90, 91, 92] (by decide +kernel) (by decide +kernel)
set_option maxRecDepth 20000 in
theorem gX8_offset_X8_isWorks : GoodIn wsX8_offset (wsV RX8 92 RX8 yX8_isWorks wsX8_isWorks) := goodIn_app (goodIn_of _ (by decide +kernel)) ggX8_offset_X8_isWorks
set_option maxRecDepth 20000 in
theorem ggX8_offset_X8_isWithin : GoodIn wsX8_offset wsX8_isWithin := goodIn_r _ [12] (by decide +kernel) (by decide +kernel)
set_option maxRecDepth 20000 in
theorem gX8_offset_X8_isWithin : GoodIn wsX8_offset (va_wsS RX8 98 yX8_isWithin wsX8_isWithin) := goodIn_app (goodIn_of _ (by decide +kernel)) ggX8_offset_X8_isWithin
set_option maxRecDepth 20000 in
theorem ggX8_offset_X8_isYear : GoodIn wsX8_offset wsX8_isYear := goodIn_r _ [15, 10, 11, 7, 12] (by decide +kernel) (by decide +kernel)
set_option maxRecDepth 20000 in
theorem gX8_offset_X8_isYear : GoodIn wsX8_offset (va_wsS RX8 71 yX8_isYear wsX8_isYear) := goodIn_app (goodIn_of _ (by decide +kernel)) ggX8_offset_X8_isYear
set_option maxRecDepth 20000 in
theorem ggX8_offset_X5_hasRoomFor : GoodIn wsX8_offset wsX5_hasRoomFor := goodIn_r _ [20, 21, 93, 94, 95, 96, 97, 98, 99, 100, 101, 102, 103, 104] (by decide +kernel) (by decide +kernel)
set_option maxRecDepth 20000 in
theorem gX8_offset_X5_hasRoomFor : GoodIn wsX8_offset (wsV RX8 113 RX5 yX5_hasRoomFor wsX5_hasRoomFor) := goodIn_app (goodIn_of _ (by decide +kernel)) ggX8_offset_X5_hasRoomFor
set_option maxRecDepth 20000 in
theorem ggX8_offset_X5_come : GoodIn wsX8_offset wsX5_come := goodIn_r _ [25, 21, 26, 27, 28, 29, 30, 31, 32, 33, 34, 35, 19, 36, 37, 38, 39, 40, 41, 42, 43, 44, 45, 46, 47, 48, 49, 50, 51, 52, 53, 54, 55, 56, 57, 58, 59, 60, 61, 62, 63, 64, 65, 66, 67, 68, 69, 70, 71, 72, 73, 74, 75, 76, 77, 78, 79, 93, 94, 95, 96, 97, 98, 99, 100, 101, 102, 103, 104, 105] (by decide +kernel) (by decide +kernel)
set_option maxRecDepth 20000 in
theorem gX8_offset_X5_come : GoodIn wsX8_offset (wsV RX8 123 RX5 yX5_come wsX5_come) := goodIn_app (goodIn_of _ (by decide +kernel)) ggX8_offset_X5_come
theorem dX8_offset_0 : decode cX8_offset 0 = .ok (.aload_n 0, 1) := by decide +kernel
theorem dX8_offset_1 : decode cX8_offset 1 = .ok (.iload_n 1, 1) := by decide +kernel
theorem dX8_offset_2 : decode cX8_offset 2 = .ok (.invokevirtual 92, 3) := by decide +kernel
theorem dX8_offset_5 : decode cX8_offset 5 = .ok (.ifCond .eq 22, 3) := by decide +kernel
theorem dX8_offset_8 : decode cX8_offset 8 = .ok (.iload_n 2, 1) := by decide +kernel
theorem dX8_offset_9 : decode cX8_offset 9 = .ok (.iconst 1, 1) := by decide +kernel
theorem dX8_offset_10 : decode cX8_offset 10 = .ok (.bipush 100, 2) := by decide +kernel
theorem dX8_offset_12 : decode cX8_offset 12 = .ok (.invokestatic 98, 3) := by decide +kernel
theorem dX8_offset_15 : decode cX8_offset 15 = .ok (.ifCond .eq 12, 3) := by decide +kernel
theorem dX8_offset_18 : decode cX8_offset 18 = .ok (.aload_n 0, 1) := by decide +kernel
theorem dX8_offset_19 : decode cX8_offset 19 = .ok (.getfield 168, 3) := by decide +kernel
theorem dX8_offset_22 : decode cX8_offset 22 = .ok (.bipush 20, 2) := by decide +kernel
theorem dX8_offset_24 : decode cX8_offset 24 = .ok (.if_icmp .lt 5, 3) := by decide +kernel
theorem dX8_offset_27 : decode cX8_offset 27 = .ok (.iconst (-1), 1) := by decide +kernel
theorem dX8_offset_28 : decode cX8_offset 28 = .ok (.ireturn, 1) := by decide +kernel
theorem dX8_offset_29 : decode cX8_offset 29 = .ok (.aload_n 0, 1) := by decide +kernel
theorem dX8_offset_30 : decode cX8_offset 30 = .ok (.getfield 95, 3) := by decide +kernel
theorem dX8_offset_33 : decode cX8_offset 33 = .ok (.invokestatic 71, 3) := by decide +kernel
theorem dX8_offset_36 : decode cX8_offset 36 = .ok (.ifCond .eq 14, 3) := by decide +kernel
theorem dX8_offset_39 : decode cX8_offset 39 = .ok (.aload_n 0, 1) := by decide +kernel
theorem dX8_offset_40 : decode cX8_offset 40 = .ok (.getfield 26, 3) := by decide +kernel
theorem dX8_offset_43 : decode cX8_offset 43 = .ok (.iload_n 2, 1) := by decide +kernel
theorem dX8_offset_44 : decode cX8_offset 44 = .ok (.invokevirtual 113, 3) := by decide +kernel
theorem dX8_offset_47 : decode cX8_offset 47 = .ok (.ifCond .ne 5, 3) := by decide +kernel
theorem dX8_offset_50 : decode cX8_offset 50 = .ok (.iconst (-1), 1) := by decide +kernel
theorem dX8_offset_51 : decode cX8_offset 51 = .ok (.ireturn, 1) := by decide +kernel
theorem dX8_offset_52 : decode cX8_offset 52 = .ok (.aload_n 0, 1) := by decide +kernel
theorem dX8_offset_53 : decode cX8_offset 53 = .ok (.getfield 168, 3) := by decide +kernel
theorem dX8_offset_56 : decode cX8_offset 56 = .ok (.istore_n 3, 1) := by decide +kernel
theorem dX8_offset_57 : decode cX8_offset 57 = .ok (.aload_n 0, 1) := by decide +kernel
theorem dX8_offset_58 : decode cX8_offset 58 = .ok (.getfield 26, 3) := by decide +kernel
theorem dX8_offset_61 : decode cX8_offset 61 = .ok (.iload_n 2, 1) := by decide +kernel
theorem dX8_offset_62 : decode cX8_offset 62 = .ok (.iload_n 1, 1) := by decide +kernel
theorem dX8_offset_63 : decode cX8_offset 63 = .ok (.aload_n 0, 1) := by decide +kernel
theorem dX8_offset_64 : decode cX8_offset 64 = .ok (.getfield 95, 3) := by decide +kernel
theorem dX8_offset_67 : decode cX8_offset 67 = .ok (.iload_n 3, 1) := by decide +kernel
theorem dX8_offset_68 : decode cX8_offset 68 = .ok (.invokevirtual 123, 3) := by decide +kernel
theorem dX8_offset_71 : decode cX8_offset 71 = .ok (.aload_n 0, 1) := by decide +kernel
theorem dX8_offset_72 : decode cX8_offset 72 = .ok (.dup, 1) := by decide +kernel
theorem dX8_offset_73 : decode cX8_offset 73 = .ok (.getfield 168, 3) := by decide +kernel
theorem dX8_offset_76 : decode cX8_offset 76 = .ok (.iconst 1, 1) := by decide +kernel
theorem dX8_offset_77 : decode cX8_offset 77 = .ok (.iadd, 1) := by decide +kernel
theorem dX8_offset_78 : decode cX8_offset 78 = .ok (.putfield 168, 3) := by decide +kernel
theorem dX8_offset_81 : decode cX8_offset 81 = .ok (.iload_n 3, 1) := by decide +kernel
theorem dX8_offset_82 : decode cX8_offset 82 = .ok (.ireturn, 1) := by decide +kernel
set_option maxRecDepth 20000 in
theorem ggX8_falses_X8_isWithin : GoodIn wsX8_falses wsX8_isWithin := goodIn_r _ [7] (by decide +kernel) (by decide +kernel)
set_option maxRecDepth 20000 in
theorem gX8_falses_X8_isWithin : GoodIn wsX8_falses (va_wsS RX8 98 yX8_isWithin wsX8_isWithin) := goodIn_app (goodIn_of _ (by decide +kernel)) ggX8_falses_X8_isWithin
set_option maxRecDepth 20000 in
theorem ggX8_falses_X6_at : GoodIn wsX8_falses wsX6_at := goodIn_r _ [12, 13, 78] (by decide +kernel) (by decide +kernel)
set_option maxRecDepth 20000 in
theorem gX8_falses_X6_at : GoodIn wsX8_falses (wsV RX8 171 RX6 yX6_at wsX6_at) := goodIn_app (goodIn_of _ (by decide +kernel)) ggX8_falses_X6_at
set_option maxRecDepth 20000 in
theorem ggX8_falses_X6_put : GoodIn wsX8_falses wsX6_put := goodIn_r _ [17, 13, 78] (by decide +kernel) (by decide +kernel)
set_option maxRecDepth 20000 in
theorem gX8_falses_X6_put : GoodIn wsX8_falses (wsV RX8 174 RX6 yX6_put wsX6_put) := goodIn_app (goodIn_of _ (by decide +kernel)) ggX8_falses_X6_put
set_option maxRecDepth 20000 in
theorem ggX8_falses_X5_cameSoFar : GoodIn wsX8_falses wsX5_cameSoFar := goodIn_r _ [22, 23, 79, 80, 81, 82, 83, 84, 85, 86, 87, 88, 89, 90] (by decide +kernel) (by decide +kernel)
set_option maxRecDepth 20000 in
theorem gX8_falses_X5_cameSoFar : GoodIn wsX8_falses (wsV RX8 177 RX5 yX5_cameSoFar wsX5_cameSoFar) := goodIn_app (goodIn_of _ (by decide +kernel)) ggX8_falses_X5_cameSoFar
set_option maxRecDepth 20000 in
theorem ggX8_falses_X5_projectOf : GoodIn wsX8_falses wsX5_projectOf := goodIn_r _ [27, 28, 29, 9, 10, 11, 12, 13, 79, 80, 81, 82, 83, 84, 85, 86, 87, 88, 89, 90, 78] (by decide +kernel) (by decide +kernel)
set_option maxRecDepth 20000 in
theorem gX8_falses_X5_projectOf : GoodIn wsX8_falses (wsV RX8 180 RX5 yX5_projectOf wsX5_projectOf) := goodIn_app (goodIn_of _ (by decide +kernel)) ggX8_falses_X5_projectOf
set_option maxRecDepth 20000 in
theorem ggX8_falses_X8_undo : GoodIn wsX8_falses wsX8_undo := goodIn_r _ [33, 3, 34, 35, 36, 37, 21, 38, 39, 29, 9, 10, 11, 12, 13, 40, 41, 42, 43, 44, 45, 46, 47, 15, 16, 17, 48, 49, 50, 51, 52, 53, 54, 55, 56, 57, 58, 59, 60, 61, 62, 63, 64, 65, 66, 67, 68, 69, 70, 71, 72, 73, 74, 75, 76, 77, 79, 80, 81, 82, 83, 84, 85, 86, 87, 88, 89, 90, 78, 91, 92, 93, 94, 95] (by decide +kernel) (by decide +kernel)
set_option maxRecDepth 20000 in
theorem gX8_falses_X8_undo : GoodIn wsX8_falses (wsV RX8 183 RX8 yX8_undo wsX8_undo) := goodIn_app (goodIn_of _ (by decide +kernel)) ggX8_falses_X8_undo
theorem dX8_falses_0 : decode cX8_falses 0 = .ok (.iload_n 1, 1) := by decide +kernel
theorem dX8_falses_1 : decode cX8_falses 1 = .ok (.iconst 0, 1) := by decide +kernel
theorem dX8_falses_2 : decode cX8_falses 2 = .ok (.aload_n 0, 1) := by decide +kernel
theorem dX8_falses_3 : decode cX8_falses 3 = .ok (.getfield 168, 3) := by decide +kernel
theorem dX8_falses_6 : decode cX8_falses 6 = .ok (.iconst 1, 1) := by decide +kernel
theorem dX8_falses_7 : decode cX8_falses 7 = .ok (.isub, 1) := by decide +kernel
theorem dX8_falses_8 : decode cX8_falses 8 = .ok (.invokestatic 98, 3) := by decide +kernel
theorem dX8_falses_11 : decode cX8_falses 11 = .ok (.ifCond .eq 14, 3) := by decide +kernel
theorem dX8_falses_14 : decode cX8_falses 14 = .ok (.aload_n 0, 1) := by decide +kernel
theorem dX8_falses_15 : decode cX8_falses 15 = .ok (.getfield 63, 3) := by decide +kernel
theorem dX8_falses_18 : decode cX8_falses 18 = .ok (.iload_n 1, 1) := by decide +kernel
theorem dX8_falses_19 : decode cX8_falses 19 = .ok (.invokevirtual 171, 3) := by decide +kernel
theorem dX8_falses_22 : decode cX8_falses 22 = .ok (.ifCond .eq 5, 3) := by decide +kernel
theorem dX8_falses_25 : decode cX8_falses 25 = .ok (.iconst (-1), 1) := by decide +kernel
theorem dX8_falses_26 : decode cX8_falses 26 = .ok (.ireturn, 1) := by decide +kernel
theorem dX8_falses_27 : decode cX8_falses 27 = .ok (.aload_n 0, 1) := by decide +kernel
theorem dX8_falses_28 : decode cX8_falses 28 = .ok (.getfield 63, 3) := by decide +kernel
theorem dX8_falses_31 : decode cX8_falses 31 = .ok (.iload_n 1, 1) := by decide +kernel
theorem dX8_falses_32 : decode cX8_falses 32 = .ok (.iconst 1, 1) := by decide +kernel
theorem dX8_falses_33 : decode cX8_falses 33 = .ok (.invokevirtual 174, 3) := by decide +kernel
theorem dX8_falses_36 : decode cX8_falses 36 = .ok (.iconst 0, 1) := by decide +kernel
theorem dX8_falses_37 : decode cX8_falses 37 = .ok (.istore_n 2, 1) := by decide +kernel
theorem dX8_falses_38 : decode cX8_falses 38 = .ok (.iconst 0, 1) := by decide +kernel
theorem dX8_falses_39 : decode cX8_falses 39 = .ok (.istore_n 3, 1) := by decide +kernel
theorem dX8_falses_40 : decode cX8_falses 40 = .ok (.iload_n 3, 1) := by decide +kernel
theorem dX8_falses_41 : decode cX8_falses 41 = .ok (.aload_n 0, 1) := by decide +kernel
theorem dX8_falses_42 : decode cX8_falses 42 = .ok (.getfield 26, 3) := by decide +kernel
theorem dX8_falses_45 : decode cX8_falses 45 = .ok (.invokevirtual 177, 3) := by decide +kernel
theorem dX8_falses_48 : decode cX8_falses 48 = .ok (.if_icmp .ge 29, 3) := by decide +kernel
theorem dX8_falses_51 : decode cX8_falses 51 = .ok (.aload_n 0, 1) := by decide +kernel
theorem dX8_falses_52 : decode cX8_falses 52 = .ok (.getfield 26, 3) := by decide +kernel
theorem dX8_falses_55 : decode cX8_falses 55 = .ok (.iload_n 3, 1) := by decide +kernel
theorem dX8_falses_56 : decode cX8_falses 56 = .ok (.invokevirtual 180, 3) := by decide +kernel
theorem dX8_falses_59 : decode cX8_falses 59 = .ok (.iload_n 1, 1) := by decide +kernel
theorem dX8_falses_60 : decode cX8_falses 60 = .ok (.if_icmp .ne 11, 3) := by decide +kernel
theorem dX8_falses_63 : decode cX8_falses 63 = .ok (.iload_n 2, 1) := by decide +kernel
theorem dX8_falses_64 : decode cX8_falses 64 = .ok (.aload_n 0, 1) := by decide +kernel
theorem dX8_falses_65 : decode cX8_falses 65 = .ok (.iload_n 3, 1) := by decide +kernel
theorem dX8_falses_66 : decode cX8_falses 66 = .ok (.invokevirtual 183, 3) := by decide +kernel
theorem dX8_falses_69 : decode cX8_falses 69 = .ok (.iadd, 1) := by decide +kernel
theorem dX8_falses_70 : decode cX8_falses 70 = .ok (.istore_n 2, 1) := by decide +kernel
theorem dX8_falses_71 : decode cX8_falses 71 = .ok (.iinc 3 1, 3) := by decide +kernel
theorem dX8_falses_74 : decode cX8_falses 74 = .ok (.goto (-34), 3) := by decide +kernel
theorem dX8_falses_77 : decode cX8_falses 77 = .ok (.iload_n 2, 1) := by decide +kernel
theorem dX8_falses_78 : decode cX8_falses 78 = .ok (.ireturn, 1) := by decide +kernel
set_option maxRecDepth 20000 in
theorem ggX8_cancel_X8_holdsAsMany : GoodIn wsX8_cancel wsX8_holdsAsMany := goodIn_r _ [6, 1, 7, 8, 9, 5, 10, 11, 12, 13, 14, 15, 16, 17, 18, 19, 20, 21, 22, 23, 24, 25, 26, 58, 59, 60, 61, 62, 63, 64, 65, 66, 67, 68, 69, 70, 71, 72, 73, 74, 75, 76, 77, 78, 79, 80, 81, 82, 83] (by decide +kernel) (by decide +kernel)
set_option maxRecDepth 20000 in
theorem gX8_cancel_X8_holdsAsMany : GoodIn wsX8_cancel (wsV RX8 160 RX8 yX8_holdsAsMany wsX8_holdsAsMany) := goodIn_app (goodIn_of _ (by decide +kernel)) ggX8_cancel_X8_holdsAsMany
set_option maxRecDepth 20000 in
theorem ggX8_cancel_X5_strike : GoodIn wsX8_cancel wsX5_strike := goodIn_r _ [30, 31, 32, 33, 18, 34, 35, 36, 37, 21, 22, 23, 24, 25, 26, 38, 39, 40, 41, 42, 43, 44, 45, 46, 47, 48, 49, 50, 20, 51, 52, 53, 54, 55, 56, 57, 71, 72, 73, 74, 75, 76, 77, 78, 79, 80, 81, 82, 83] (by decide +kernel) (by decide +kernel)
set_option maxRecDepth 20000 in
theorem gX8_cancel_X5_strike : GoodIn wsX8_cancel (wsV RX8 186 RX5 yX5_strike wsX5_strike) := goodIn_app (goodIn_of _ (by decide +kernel)) ggX8_cancel_X5_strike
theorem dX8_cancel_0 : decode cX8_cancel 0 = .ok (.aload_n 0, 1) := by decide +kernel
theorem dX8_cancel_1 : decode cX8_cancel 1 = .ok (.iload_n 1, 1) := by decide +kernel
theorem dX8_cancel_2 : decode cX8_cancel 2 = .ok (.iload_n 2, 1) := by decide +kernel
theorem dX8_cancel_3 : decode cX8_cancel 3 = .ok (.invokevirtual 160, 3) := by decide +kernel
theorem dX8_cancel_6 : decode cX8_cancel 6 = .ok (.ifCond .ne 5, 3) := by decide +kernel
theorem dX8_cancel_9 : decode cX8_cancel 9 = .ok (.iconst 0, 1) := by decide +kernel
theorem dX8_cancel_10 : decode cX8_cancel 10 = .ok (.ireturn, 1) := by decide +kernel
theorem dX8_cancel_11 : decode cX8_cancel 11 = .ok (.aload_n 0, 1) := by decide +kernel
theorem dX8_cancel_12 : decode cX8_cancel 12 = .ok (.getfield 26, 3) := by decide +kernel
theorem dX8_cancel_15 : decode cX8_cancel 15 = .ok (.iload_n 1, 1) := by decide +kernel
theorem dX8_cancel_16 : decode cX8_cancel 16 = .ok (.iload_n 2, 1) := by decide +kernel
theorem dX8_cancel_17 : decode cX8_cancel 17 = .ok (.invokevirtual 186, 3) := by decide +kernel
theorem dX8_cancel_20 : decode cX8_cancel 20 = .ok (.iconst 1, 1) := by decide +kernel
theorem dX8_cancel_21 : decode cX8_cancel 21 = .ok (.ireturn, 1) := by decide +kernel
set_option maxRecDepth 20000 in
theorem ggX8_end_X8_isYear : GoodIn wsX8_end wsX8_isYear := goodIn_r _ [7, 8, 9, 6, 10] (by decide +kernel) (by decide +kernel)
set_option maxRecDepth 20000 in
theorem gX8_end_X8_isYear : GoodIn wsX8_end (va_wsS RX8 71 yX8_isYear wsX8_isYear) := goodIn_app (goodIn_of _ (by decide +kernel)) ggX8_end_X8_isYear
set_option maxRecDepth 20000 in
theorem ggX8_end_X8_settle : GoodIn wsX8_end wsX8_settle := goodIn_r _ [14, 15, 1, 16, 17, 18, 19, 20, 21, 22, 23, 24, 25, 26, 27, 28, 29, 30, 31, 32, 33, 34, 35, 36, 37, 38, 39, 40, 41, 42, 43, 44, 45, 46, 47, 48, 49, 50, 51, 52, 53, 54, 55, 56, 57, 58, 59, 60, 61, 62, 63, 64, 65, 66, 67, 68, 69, 70, 71, 72, 73, 74, 75, 76, 77, 78, 79, 80, 81, 82, 83, 84, 85, 86, 87, 88, 89, 90, 91, 92, 93, 94, 95, 96, 97, 98, 99, 100, 101, 102, 103, 104, 105, 106, 107, 108, 109, 110, 111, 112, 113, 114, 115, 116, 117, 118, 119, 120, 121, 122, 123, 124, 125, 126, 127, 128, 129, 130, 131, 132, 133, 134, 135, 136, 137, 138, 139, 140, 141, 142, 143, 144, 145, 146, 147, 148, 149, 150, 151, 152] (by decide +kernel) (by decide +kernel)
set_option maxRecDepth 20000 in
theorem gX8_end_X8_settle : GoodIn wsX8_end (wsV RX8 189 RX8 yX8_settle wsX8_settle) := goodIn_app (goodIn_of _ (by decide +kernel)) ggX8_end_X8_settle
theorem dX8_end_0 : decode cX8_end 0 = .ok (.aload_n 0, 1) := by decide +kernel
theorem dX8_end_1 : decode cX8_end 1 = .ok (.getfield 95, 3) := by decide +kernel
theorem dX8_end_4 : decode cX8_end 4 = .ok (.invokestatic 71, 3) := by decide +kernel
theorem dX8_end_7 : decode cX8_end 7 = .ok (.ifCond .ne 5, 3) := by decide +kernel
theorem dX8_end_10 : decode cX8_end 10 = .ok (.iconst (-1), 1) := by decide +kernel
theorem dX8_end_11 : decode cX8_end 11 = .ok (.ireturn, 1) := by decide +kernel
theorem dX8_end_12 : decode cX8_end 12 = .ok (.iconst 0, 1) := by decide +kernel
theorem dX8_end_13 : decode cX8_end 13 = .ok (.istore_n 1, 1) := by decide +kernel
theorem dX8_end_14 : decode cX8_end 14 = .ok (.iconst 0, 1) := by decide +kernel
theorem dX8_end_15 : decode cX8_end 15 = .ok (.istore_n 2, 1) := by decide +kernel
theorem dX8_end_16 : decode cX8_end 16 = .ok (.iload_n 2, 1) := by decide +kernel
theorem dX8_end_17 : decode cX8_end 17 = .ok (.aload_n 0, 1) := by decide +kernel
theorem dX8_end_18 : decode cX8_end 18 = .ok (.getfield 67, 3) := by decide +kernel
theorem dX8_end_21 : decode cX8_end 21 = .ok (.if_icmp .ge 17, 3) := by decide +kernel
theorem dX8_end_24 : decode cX8_end 24 = .ok (.iload_n 1, 1) := by decide +kernel
theorem dX8_end_25 : decode cX8_end 25 = .ok (.aload_n 0, 1) := by decide +kernel
theorem dX8_end_26 : decode cX8_end 26 = .ok (.iload_n 2, 1) := by decide +kernel
theorem dX8_end_27 : decode cX8_end 27 = .ok (.invokevirtual 189, 3) := by decide +kernel
theorem dX8_end_30 : decode cX8_end 30 = .ok (.iadd, 1) := by decide +kernel
theorem dX8_end_31 : decode cX8_end 31 = .ok (.istore_n 1, 1) := by decide +kernel
theorem dX8_end_32 : decode cX8_end 32 = .ok (.iinc 2 1, 3) := by decide +kernel
theorem dX8_end_35 : decode cX8_end 35 = .ok (.goto (-19), 3) := by decide +kernel
theorem dX8_end_38 : decode cX8_end 38 = .ok (.aload_n 0, 1) := by decide +kernel
theorem dX8_end_39 : decode cX8_end 39 = .ok (.dup, 1) := by decide +kernel
theorem dX8_end_40 : decode cX8_end 40 = .ok (.getfield 95, 3) := by decide +kernel
theorem dX8_end_43 : decode cX8_end 43 = .ok (.iconst 1, 1) := by decide +kernel
theorem dX8_end_44 : decode cX8_end 44 = .ok (.iadd, 1) := by decide +kernel
theorem dX8_end_45 : decode cX8_end 45 = .ok (.putfield 95, 3) := by decide +kernel
theorem dX8_end_48 : decode cX8_end 48 = .ok (.aload_n 0, 1) := by decide +kernel
theorem dX8_end_49 : decode cX8_end 49 = .ok (.iconst 0, 1) := by decide +kernel
theorem dX8_end_50 : decode cX8_end 50 = .ok (.putfield 109, 3) := by decide +kernel
theorem dX8_end_53 : decode cX8_end 53 = .ok (.iload_n 1, 1) := by decide +kernel
theorem dX8_end_54 : decode cX8_end 54 = .ok (.ireturn, 1) := by decide +kernel
set_option maxRecDepth 20000 in
theorem ggX8_permit_X5_cameSoFar : GoodIn wsX8_permit wsX5_cameSoFar := goodIn_r _ [7, 8, 43, 44, 45, 46, 47, 48, 49, 50, 51, 52, 53, 54] (by decide +kernel) (by decide +kernel)
set_option maxRecDepth 20000 in
theorem gX8_permit_X5_cameSoFar : GoodIn wsX8_permit (wsV RX8 177 RX5 yX5_cameSoFar wsX5_cameSoFar) := goodIn_app (goodIn_of _ (by decide +kernel)) ggX8_permit_X5_cameSoFar
set_option maxRecDepth 20000 in
theorem ggX8_permit_X8_isWithin : GoodIn wsX8_permit wsX8_isWithin := goodIn_r _ [12] (by decide +kernel) (by decide +kernel)
set_option maxRecDepth 20000 in
theorem gX8_permit_X8_isWithin : GoodIn wsX8_permit (va_wsS RX8 98 yX8_isWithin wsX8_isWithin) := goodIn_app (goodIn_of _ (by decide +kernel)) ggX8_permit_X8_isWithin
set_option maxRecDepth 20000 in
theorem ggX8_permit_X5_fact : GoodIn wsX8_permit wsX5_fact := goodIn_r _ [16, 17, 18, 19, 20, 21, 22, 23, 24, 25, 26, 27, 28, 29, 43, 44, 45, 46, 47, 48, 49, 50, 51, 52, 53, 54, 55] (by decide +kernel) (by decide +kernel)
set_option maxRecDepth 20000 in
theorem gX8_permit_X5_fact : GoodIn wsX8_permit (wsV RX8 192 RX5 yX5_fact wsX5_fact) := goodIn_app (goodIn_of _ (by decide +kernel)) ggX8_permit_X5_fact
theorem dX8_permit_0 : decode cX8_permit 0 = .ok (.iload_n 1, 1) := by decide +kernel
theorem dX8_permit_1 : decode cX8_permit 1 = .ok (.iconst 0, 1) := by decide +kernel
theorem dX8_permit_2 : decode cX8_permit 2 = .ok (.aload_n 0, 1) := by decide +kernel
theorem dX8_permit_3 : decode cX8_permit 3 = .ok (.getfield 26, 3) := by decide +kernel
theorem dX8_permit_6 : decode cX8_permit 6 = .ok (.invokevirtual 177, 3) := by decide +kernel
theorem dX8_permit_9 : decode cX8_permit 9 = .ok (.iconst 1, 1) := by decide +kernel
theorem dX8_permit_10 : decode cX8_permit 10 = .ok (.isub, 1) := by decide +kernel
theorem dX8_permit_11 : decode cX8_permit 11 = .ok (.invokestatic 98, 3) := by decide +kernel
theorem dX8_permit_14 : decode cX8_permit 14 = .ok (.ifCond .eq 15, 3) := by decide +kernel
theorem dX8_permit_17 : decode cX8_permit 17 = .ok (.aload_n 0, 1) := by decide +kernel
theorem dX8_permit_18 : decode cX8_permit 18 = .ok (.getfield 26, 3) := by decide +kernel
theorem dX8_permit_21 : decode cX8_permit 21 = .ok (.iload_n 1, 1) := by decide +kernel
theorem dX8_permit_22 : decode cX8_permit 22 = .ok (.iload_n 2, 1) := by decide +kernel
theorem dX8_permit_23 : decode cX8_permit 23 = .ok (.invokevirtual 192, 3) := by decide +kernel
theorem dX8_permit_26 : decode cX8_permit 26 = .ok (.goto 5, 3) := by decide +kernel
theorem dX8_permit_29 : decode cX8_permit 29 = .ok (.ldc 195, 2) := by decide +kernel
theorem dX8_permit_31 : decode cX8_permit 31 = .ok (.ireturn, 1) := by decide +kernel
set_option maxRecDepth 20000 in
theorem ggX8_told_X8_isWorks : GoodIn wsX8_told wsX8_isWorks := goodIn_r _ [8, 9, 10, 11, 7, 12, 36, 37, 38, 39, 40, 41, 42, 43, 44, 45, 46, 47, 48] (by decide +kernel) (by decide +kernel)
set_option maxRecDepth 20000 in
theorem gX8_told_X8_isWorks : GoodIn wsX8_told (wsV RX8 92 RX8 yX8_isWorks wsX8_isWorks) := goodIn_app (goodIn_of _ (by decide +kernel)) ggX8_told_X8_isWorks
set_option maxRecDepth 20000 in
theorem ggX8_told_X5_heldBy : GoodIn wsX8_told wsX5_heldBy := goodIn_r _ [17, 18, 19, 20, 21, 22, 23, 24, 49, 50, 51, 52, 53, 54, 55, 56, 57, 58, 59, 60, 61] (by decide +kernel) (by decide +kernel)
set_option maxRecDepth 20000 in
theorem gX8_told_X5_heldBy : GoodIn wsX8_told (wsV RX8 134 RX5 yX5_heldBy wsX5_heldBy) := goodIn_app (goodIn_of _ (by decide +kernel)) ggX8_told_X5_heldBy
set_option maxRecDepth 20000 in
theorem ggX8_told_X3_fact : GoodIn wsX8_told wsX3_fact := goodIn_r _ [29, 30, 31, 32, 33, 34, 35, 20, 21, 22, 23, 24, 62, 63, 64, 65, 66, 61] (by decide +kernel) (by decide +kernel)
set_option maxRecDepth 20000 in
theorem gX8_told_X3_fact : GoodIn wsX8_told (wsV RX8 196 RX3 yX3_fact wsX3_fact) := goodIn_app (goodIn_of _ (by decide +kernel)) ggX8_told_X3_fact
theorem dX8_told_0 : decode cX8_told 0 = .ok (.aload_n 0, 1) := by decide +kernel
theorem dX8_told_1 : decode cX8_told 1 = .ok (.iload_n 1, 1) := by decide +kernel
theorem dX8_told_2 : decode cX8_told 2 = .ok (.invokevirtual 92, 3) := by decide +kernel
theorem dX8_told_5 : decode cX8_told 5 = .ok (.ifCond .ne 6, 3) := by decide +kernel
theorem dX8_told_8 : decode cX8_told 8 = .ok (.ldc 195, 2) := by decide +kernel
theorem dX8_told_10 : decode cX8_told 10 = .ok (.ireturn, 1) := by decide +kernel
theorem dX8_told_11 : decode cX8_told 11 = .ok (.iload_n 2, 1) := by decide +kernel
theorem dX8_told_12 : decode cX8_told 12 = .ok (.iconst 2, 1) := by decide +kernel
theorem dX8_told_13 : decode cX8_told 13 = .ok (.if_icmp .ne 14, 3) := by decide +kernel
theorem dX8_told_16 : decode cX8_told 16 = .ok (.aload_n 0, 1) := by decide +kernel
theorem dX8_told_17 : decode cX8_told 17 = .ok (.getfield 26, 3) := by decide +kernel
theorem dX8_told_20 : decode cX8_told 20 = .ok (.iload_n 1, 1) := by decide +kernel
theorem dX8_told_21 : decode cX8_told 21 = .ok (.invokevirtual 134, 3) := by decide +kernel
theorem dX8_told_24 : decode cX8_told 24 = .ok (.goto 12, 3) := by decide +kernel
theorem dX8_told_27 : decode cX8_told 27 = .ok (.aload_n 0, 1) := by decide +kernel
theorem dX8_told_28 : decode cX8_told 28 = .ok (.getfield 54, 3) := by decide +kernel
theorem dX8_told_31 : decode cX8_told 31 = .ok (.iload_n 1, 1) := by decide +kernel
theorem dX8_told_32 : decode cX8_told 32 = .ok (.iload_n 2, 1) := by decide +kernel
theorem dX8_told_33 : decode cX8_told 33 = .ok (.invokevirtual 196, 3) := by decide +kernel
theorem dX8_told_36 : decode cX8_told 36 = .ok (.ireturn, 1) := by decide +kernel
set_option maxRecDepth 20000 in
theorem ggX8_cut_X8_isWorks : GoodIn wsX8_cut wsX8_isWorks := goodIn_r _ [6, 7, 8, 9, 5, 10, 45, 46, 47, 48, 49, 50, 51, 52, 53, 54, 55, 56, 57] (by decide +kernel) (by decide +kernel)
set_option maxRecDepth 20000 in
theorem gX8_cut_X8_isWorks : GoodIn wsX8_cut (wsV RX8 92 RX8 yX8_isWorks wsX8_isWorks) := goodIn_app (goodIn_of _ (by decide +kernel)) ggX8_cut_X8_isWorks
set_option maxRecDepth 20000 in
theorem ggX8_cut_X8_isWithin : GoodIn wsX8_cut wsX8_isWithin := goodIn_r _ [10] (by decide +kernel) (by decide +kernel)
set_option maxRecDepth 20000 in
theorem gX8_cut_X8_isWithin : GoodIn wsX8_cut (va_wsS RX8 98 yX8_isWithin wsX8_isWithin) := goodIn_app (goodIn_of _ (by decide +kernel)) ggX8_cut_X8_isWithin
set_option maxRecDepth 20000 in
theorem ggX8_cut_X2_offer : GoodIn wsX8_cut wsX2_offer := goodIn_r _ [15, 16, 17, 18, 19, 20, 21, 22, 23, 24, 25, 26, 27, 28, 29, 30, 14, 31, 32, 33, 34, 35, 36, 37, 38, 39, 40, 41, 42, 43, 44, 58, 59, 60, 61, 62, 63, 64] (by decide +kernel) (by decide +kernel)
set_option maxRecDepth 20000 in
theorem gX8_cut_X2_offer : GoodIn wsX8_cut (wsV RX8 197 RX2 yX2_offer wsX2_offer) := goodIn_app (goodIn_of _ (by decide +kernel)) ggX8_cut_X2_offer
theorem dX8_cut_0 : decode cX8_cut 0 = .ok (.aload_n 0, 1) := by decide +kernel
theorem dX8_cut_1 : decode cX8_cut 1 = .ok (.iload_n 1, 1) := by decide +kernel
theorem dX8_cut_2 : decode cX8_cut 2 = .ok (.invokevirtual 92, 3) := by decide +kernel
theorem dX8_cut_5 : decode cX8_cut 5 = .ok (.ifCond .eq 24, 3) := by decide +kernel
theorem dX8_cut_8 : decode cX8_cut 8 = .ok (.iload_n 2, 1) := by decide +kernel
theorem dX8_cut_9 : decode cX8_cut 9 = .ok (.iconst 1, 1) := by decide +kernel
theorem dX8_cut_10 : decode cX8_cut 10 = .ok (.bipush 99, 2) := by decide +kernel
theorem dX8_cut_12 : decode cX8_cut 12 = .ok (.invokestatic 98, 3) := by decide +kernel
theorem dX8_cut_15 : decode cX8_cut 15 = .ok (.ifCond .eq 14, 3) := by decide +kernel
theorem dX8_cut_18 : decode cX8_cut 18 = .ok (.iload_n 3, 1) := by decide +kernel
theorem dX8_cut_19 : decode cX8_cut 19 = .ok (.iconst 0, 1) := by decide +kernel
theorem dX8_cut_20 : decode cX8_cut 20 = .ok (.sipush 999, 3) := by decide +kernel
theorem dX8_cut_23 : decode cX8_cut 23 = .ok (.invokestatic 98, 3) := by decide +kernel
theorem dX8_cut_26 : decode cX8_cut 26 = .ok (.ifCond .ne 5, 3) := by decide +kernel
theorem dX8_cut_29 : decode cX8_cut 29 = .ok (.iconst (-1), 1) := by decide +kernel
theorem dX8_cut_30 : decode cX8_cut 30 = .ok (.ireturn, 1) := by decide +kernel
theorem dX8_cut_31 : decode cX8_cut 31 = .ok (.aload_n 0, 1) := by decide +kernel
theorem dX8_cut_32 : decode cX8_cut 32 = .ok (.getfield 47, 3) := by decide +kernel
theorem dX8_cut_35 : decode cX8_cut 35 = .ok (.iload_n 1, 1) := by decide +kernel
theorem dX8_cut_36 : decode cX8_cut 36 = .ok (.iload_n 2, 1) := by decide +kernel
theorem dX8_cut_37 : decode cX8_cut 37 = .ok (.iload_n 3, 1) := by decide +kernel
theorem dX8_cut_38 : decode cX8_cut 38 = .ok (.invokevirtual 197, 3) := by decide +kernel
theorem dX8_cut_41 : decode cX8_cut 41 = .ok (.ireturn, 1) := by decide +kernel
set_option maxRecDepth 20000 in
theorem ggX8_least_X2_canBe : GoodIn wsX8_least wsX2_canBe := goodIn_r _ [6, 7, 38, 39, 40, 41, 42, 43] (by decide +kernel) (by decide +kernel)
set_option maxRecDepth 20000 in
theorem gX8_least_X2_canBe : GoodIn wsX8_least (wsV RX8 200 RX2 yX2_canBe wsX2_canBe) := goodIn_app (goodIn_of _ (by decide +kernel)) ggX8_least_X2_canBe
set_option maxRecDepth 20000 in
theorem ggX8_least_X2_costOf : GoodIn wsX8_least wsX2_costOf := goodIn_r _ [11, 12, 13, 14, 15, 16, 17, 18, 19, 20, 21, 22, 23, 24, 38, 39, 40, 41, 42, 43, 44] (by decide +kernel) (by decide +kernel)
set_option maxRecDepth 20000 in
theorem gX8_least_X2_costOf : GoodIn wsX8_least (wsV RX8 203 RX2 yX2_costOf wsX2_costOf) := goodIn_app (goodIn_of _ (by decide +kernel)) ggX8_least_X2_costOf
theorem dX8_least_0 : decode cX8_least 0 = .ok (.aload_n 0, 1) := by decide +kernel
theorem dX8_least_1 : decode cX8_least 1 = .ok (.getfield 47, 3) := by decide +kernel
theorem dX8_least_4 : decode cX8_least 4 = .ok (.iload_n 1, 1) := by decide +kernel
theorem dX8_least_5 : decode cX8_least 5 = .ok (.invokevirtual 200, 3) := by decide +kernel
theorem dX8_least_8 : decode cX8_least 8 = .ok (.ifCond .eq 14, 3) := by decide +kernel
theorem dX8_least_11 : decode cX8_least 11 = .ok (.aload_n 0, 1) := by decide +kernel
theorem dX8_least_12 : decode cX8_least 12 = .ok (.getfield 47, 3) := by decide +kernel
theorem dX8_least_15 : decode cX8_least 15 = .ok (.iload_n 1, 1) := by decide +kernel
theorem dX8_least_16 : decode cX8_least 16 = .ok (.invokevirtual 203, 3) := by decide +kernel
theorem dX8_least_19 : decode cX8_least 19 = .ok (.goto 4, 3) := by decide +kernel
theorem dX8_least_22 : decode cX8_least 22 = .ok (.iconst (-1), 1) := by decide +kernel
theorem dX8_least_23 : decode cX8_least 23 = .ok (.ireturn, 1) := by decide +kernel
set_option maxRecDepth 20000 in
theorem ggX8_margin_X2_canBe : GoodIn wsX8_margin wsX2_canBe := goodIn_r _ [6, 7, 34, 35, 36, 37, 38, 39] (by decide +kernel) (by decide +kernel)
set_option maxRecDepth 20000 in
theorem gX8_margin_X2_canBe : GoodIn wsX8_margin (wsV RX8 200 RX2 yX2_canBe wsX2_canBe) := goodIn_app (goodIn_of _ (by decide +kernel)) ggX8_margin_X2_canBe
set_option maxRecDepth 20000 in
theorem ggX8_margin_X2_dearestOf : GoodIn wsX8_margin wsX2_dearestOf := goodIn_r _ [11, 12, 13, 14, 15, 16, 17, 18, 19, 20, 34, 35, 36, 37, 38, 39, 40] (by decide +kernel) (by decide +kernel)
set_option maxRecDepth 20000 in
theorem gX8_margin_X2_dearestOf : GoodIn wsX8_margin (wsV RX8 206 RX2 yX2_dearestOf wsX2_dearestOf) := goodIn_app (goodIn_of _ (by decide +kernel)) ggX8_margin_X2_dearestOf
theorem dX8_margin_0 : decode cX8_margin 0 = .ok (.aload_n 0, 1) := by decide +kernel
theorem dX8_margin_1 : decode cX8_margin 1 = .ok (.getfield 47, 3) := by decide +kernel
theorem dX8_margin_4 : decode cX8_margin 4 = .ok (.iload_n 1, 1) := by decide +kernel
theorem dX8_margin_5 : decode cX8_margin 5 = .ok (.invokevirtual 200, 3) := by decide +kernel
theorem dX8_margin_8 : decode cX8_margin 8 = .ok (.ifCond .eq 14, 3) := by decide +kernel
theorem dX8_margin_11 : decode cX8_margin 11 = .ok (.aload_n 0, 1) := by decide +kernel
theorem dX8_margin_12 : decode cX8_margin 12 = .ok (.getfield 47, 3) := by decide +kernel
theorem dX8_margin_15 : decode cX8_margin 15 = .ok (.iload_n 1, 1) := by decide +kernel
theorem dX8_margin_16 : decode cX8_margin 16 = .ok (.invokevirtual 206, 3) := by decide +kernel
theorem dX8_margin_19 : decode cX8_margin 19 = .ok (.goto 4, 3) := by decide +kernel
theorem dX8_margin_22 : decode cX8_margin 22 = .ok (.iconst (-1), 1) := by decide +kernel
theorem dX8_margin_23 : decode cX8_margin 23 = .ok (.ireturn, 1) := by decide +kernel
set_option maxRecDepth 20000 in
theorem ggX8_cuts_X8_isWorks : GoodIn wsX8_cuts wsX8_isWorks := goodIn_r _ [6, 7, 8, 9, 5, 10, 34, 35, 36, 37, 38, 39, 40, 41, 42, 43, 44, 45, 46] (by decide +kernel) (by decide +kernel)
set_option maxRecDepth 20000 in
theorem gX8_cuts_X8_isWorks : GoodIn wsX8_cuts (wsV RX8 92 RX8 yX8_isWorks wsX8_isWorks) := goodIn_app (goodIn_of _ (by decide +kernel)) ggX8_cuts_X8_isWorks
set_option maxRecDepth 20000 in
theorem ggX8_cuts_X2_canBe : GoodIn wsX8_cuts wsX2_canBe := goodIn_r _ [15, 16, 47, 48, 49, 50, 51, 52] (by decide +kernel) (by decide +kernel)
set_option maxRecDepth 20000 in
theorem gX8_cuts_X2_canBe : GoodIn wsX8_cuts (wsV RX8 200 RX2 yX2_canBe wsX2_canBe) := goodIn_app (goodIn_of _ (by decide +kernel)) ggX8_cuts_X2_canBe
set_option maxRecDepth 20000 in
theorem ggX8_cuts_X2_partOf : GoodIn wsX8_cuts wsX2_partOf := goodIn_r _ [20, 21, 22, 23, 24, 25, 26, 27, 28, 29, 30, 31, 32, 33, 47, 48, 49, 50, 51, 52, 53] (by decide +kernel) (by decide +kernel)
set_option maxRecDepth 20000 in
theorem gX8_cuts_X2_partOf : GoodIn wsX8_cuts (wsV RX8 209 RX2 yX2_partOf wsX2_partOf) := goodIn_app (goodIn_of _ (by decide +kernel)) ggX8_cuts_X2_partOf
theorem dX8_cuts_0 : decode cX8_cuts 0 = .ok (.aload_n 0, 1) := by decide +kernel
theorem dX8_cuts_1 : decode cX8_cuts 1 = .ok (.iload_n 2, 1) := by decide +kernel
theorem dX8_cuts_2 : decode cX8_cuts 2 = .ok (.invokevirtual 92, 3) := by decide +kernel
theorem dX8_cuts_5 : decode cX8_cuts 5 = .ok (.ifCond .eq 26, 3) := by decide +kernel
theorem dX8_cuts_8 : decode cX8_cuts 8 = .ok (.aload_n 0, 1) := by decide +kernel
theorem dX8_cuts_9 : decode cX8_cuts 9 = .ok (.getfield 47, 3) := by decide +kernel
theorem dX8_cuts_12 : decode cX8_cuts 12 = .ok (.iload_n 1, 1) := by decide +kernel
theorem dX8_cuts_13 : decode cX8_cuts 13 = .ok (.invokevirtual 200, 3) := by decide +kernel
theorem dX8_cuts_16 : decode cX8_cuts 16 = .ok (.ifCond .eq 15, 3) := by decide +kernel
theorem dX8_cuts_19 : decode cX8_cuts 19 = .ok (.aload_n 0, 1) := by decide +kernel
theorem dX8_cuts_20 : decode cX8_cuts 20 = .ok (.getfield 47, 3) := by decide +kernel
theorem dX8_cuts_23 : decode cX8_cuts 23 = .ok (.iload_n 1, 1) := by decide +kernel
theorem dX8_cuts_24 : decode cX8_cuts 24 = .ok (.iload_n 2, 1) := by decide +kernel
theorem dX8_cuts_25 : decode cX8_cuts 25 = .ok (.invokevirtual 209, 3) := by decide +kernel
theorem dX8_cuts_28 : decode cX8_cuts 28 = .ok (.goto 4, 3) := by decide +kernel
theorem dX8_cuts_31 : decode cX8_cuts 31 = .ok (.iconst (-1), 1) := by decide +kernel
theorem dX8_cuts_32 : decode cX8_cuts 32 = .ok (.ireturn, 1) := by decide +kernel
set_option maxRecDepth 20000 in
theorem ggX8_count_X5_cameSoFar : GoodIn wsX8_count wsX5_cameSoFar := goodIn_r _ [12, 13, 65, 66, 67, 68, 69, 70, 71, 72, 73, 74, 75, 76] (by decide +kernel) (by decide +kernel)
set_option maxRecDepth 20000 in
theorem gX8_count_X5_cameSoFar : GoodIn wsX8_count (wsV RX8 177 RX5 yX5_cameSoFar wsX5_cameSoFar) := goodIn_app (goodIn_of _ (by decide +kernel)) ggX8_count_X5_cameSoFar
set_option maxRecDepth 20000 in
theorem ggX8_count_X5_heldByWorks : GoodIn wsX8_count wsX5_heldByWorks := goodIn_r _ [17, 13, 18, 19, 20, 21, 22, 11, 23, 24, 25, 26, 27, 28, 29, 30, 65, 66, 67, 68, 69, 70, 71, 72, 73, 74, 75, 76, 77] (by decide +kernel) (by decide +kernel)
set_option maxRecDepth 20000 in
theorem gX8_count_X5_heldByWorks : GoodIn wsX8_count (wsV RX8 211 RX5 yX5_heldByWorks wsX5_heldByWorks) := goodIn_app (goodIn_of _ (by decide +kernel)) ggX8_count_X5_heldByWorks
set_option maxRecDepth 20000 in
theorem ggX8_count_X5_heldBy : GoodIn wsX8_count wsX5_heldBy := goodIn_r _ [23, 24, 25, 26, 27, 28, 29, 30, 65, 66, 67, 68, 69, 70, 71, 72, 73, 74, 75, 76, 77] (by decide +kernel) (by decide +kernel)
set_option maxRecDepth 20000 in
theorem gX8_count_X5_heldBy : GoodIn wsX8_count (wsV RX8 134 RX5 yX5_heldBy wsX5_heldBy) := goodIn_app (goodIn_of _ (by decide +kernel)) ggX8_count_X5_heldBy
set_option maxRecDepth 20000 in
theorem ggX8_count_X5_usedSoFar : GoodIn wsX8_count wsX5_usedSoFar := goodIn_r _ [35, 18, 65, 66, 67, 68, 69, 70, 71, 72, 73, 74, 75, 76] (by decide +kernel) (by decide +kernel)
set_option maxRecDepth 20000 in
theorem gX8_count_X5_usedSoFar : GoodIn wsX8_count (wsV RX8 214 RX5 yX5_usedSoFar wsX5_usedSoFar) := goodIn_app (goodIn_of _ (by decide +kernel)) ggX8_count_X5_usedSoFar
set_option maxRecDepth 20000 in
theorem ggX8_count_X5_cancelledSoFar : GoodIn wsX8_count wsX5_cancelledSoFar := goodIn_r _ [39, 19, 65, 66, 67, 68, 69, 70, 71, 72, 73, 74, 75, 76] (by decide +kernel) (by decide +kernel)
set_option maxRecDepth 20000 in
theorem gX8_count_X5_cancelledSoFar : GoodIn wsX8_count (wsV RX8 217 RX5 yX5_cancelledSoFar wsX5_cancelledSoFar) := goodIn_app (goodIn_of _ (by decide +kernel)) ggX8_count_X5_cancelledSoFar
set_option maxRecDepth 20000 in
theorem ggX8_count_X1_many : GoodIn wsX8_count wsX1_many := goodIn_r _ [44, 45, 78, 79, 80, 81, 82] (by decide +kernel) (by decide +kernel)
set_option maxRecDepth 20000 in
theorem gX8_count_X1_many : GoodIn wsX8_count (wsV RX8 140 RX1 yX1_many wsX1_many) := goodIn_app (goodIn_of _ (by decide +kernel)) ggX8_count_X1_many
set_option maxRecDepth 20000 in
theorem ggX8_count_X3_allFines : GoodIn wsX8_count wsX3_allFines := goodIn_r _ [50, 51, 83, 84, 85, 86, 87] (by decide +kernel) (by decide +kernel)
set_option maxRecDepth 20000 in
theorem gX8_count_X3_allFines : GoodIn wsX8_count (wsV RX8 220 RX3 yX3_allFines wsX3_allFines) := goodIn_app (goodIn_of _ (by decide +kernel)) ggX8_count_X3_allFines
theorem dX8_count_0 : decode cX8_count 0 = .ok (.iload_n 1, 1) := by decide +kernel
theorem dX8_count_1 : decode cX8_count 1 = .ok (.tableswitch 136 0 10 #[59, 64, 69, 77, 85, 94, 102, 110, 118, 123, 131], 59) := by decide +kernel
theorem dX8_count_60 : decode cX8_count 60 = .ok (.aload_n 0, 1) := by decide +kernel
theorem dX8_count_61 : decode cX8_count 61 = .ok (.getfield 95, 3) := by decide +kernel
theorem dX8_count_64 : decode cX8_count 64 = .ok (.ireturn, 1) := by decide +kernel
theorem dX8_count_65 : decode cX8_count 65 = .ok (.aload_n 0, 1) := by decide +kernel
theorem dX8_count_66 : decode cX8_count 66 = .ok (.getfield 67, 3) := by decide +kernel
theorem dX8_count_69 : decode cX8_count 69 = .ok (.ireturn, 1) := by decide +kernel
theorem dX8_count_70 : decode cX8_count 70 = .ok (.aload_n 0, 1) := by decide +kernel
theorem dX8_count_71 : decode cX8_count 71 = .ok (.getfield 26, 3) := by decide +kernel
theorem dX8_count_74 : decode cX8_count 74 = .ok (.invokevirtual 177, 3) := by decide +kernel
theorem dX8_count_77 : decode cX8_count 77 = .ok (.ireturn, 1) := by decide +kernel
theorem dX8_count_78 : decode cX8_count 78 = .ok (.aload_n 0, 1) := by decide +kernel
theorem dX8_count_79 : decode cX8_count 79 = .ok (.getfield 26, 3) := by decide +kernel
theorem dX8_count_82 : decode cX8_count 82 = .ok (.invokevirtual 211, 3) := by decide +kernel
theorem dX8_count_85 : decode cX8_count 85 = .ok (.ireturn, 1) := by decide +kernel
theorem dX8_count_86 : decode cX8_count 86 = .ok (.aload_n 0, 1) := by decide +kernel
theorem dX8_count_87 : decode cX8_count 87 = .ok (.getfield 26, 3) := by decide +kernel
theorem dX8_count_90 : decode cX8_count 90 = .ok (.iconst (-1), 1) := by decide +kernel
theorem dX8_count_91 : decode cX8_count 91 = .ok (.invokevirtual 134, 3) := by decide +kernel
theorem dX8_count_94 : decode cX8_count 94 = .ok (.ireturn, 1) := by decide +kernel
theorem dX8_count_95 : decode cX8_count 95 = .ok (.aload_n 0, 1) := by decide +kernel
theorem dX8_count_96 : decode cX8_count 96 = .ok (.getfield 26, 3) := by decide +kernel
theorem dX8_count_99 : decode cX8_count 99 = .ok (.invokevirtual 214, 3) := by decide +kernel
theorem dX8_count_102 : decode cX8_count 102 = .ok (.ireturn, 1) := by decide +kernel
theorem dX8_count_103 : decode cX8_count 103 = .ok (.aload_n 0, 1) := by decide +kernel
theorem dX8_count_104 : decode cX8_count 104 = .ok (.getfield 26, 3) := by decide +kernel
theorem dX8_count_107 : decode cX8_count 107 = .ok (.invokevirtual 217, 3) := by decide +kernel
theorem dX8_count_110 : decode cX8_count 110 = .ok (.ireturn, 1) := by decide +kernel
theorem dX8_count_111 : decode cX8_count 111 = .ok (.aload_n 0, 1) := by decide +kernel
theorem dX8_count_112 : decode cX8_count 112 = .ok (.getfield 40, 3) := by decide +kernel
theorem dX8_count_115 : decode cX8_count 115 = .ok (.invokevirtual 140, 3) := by decide +kernel
theorem dX8_count_118 : decode cX8_count 118 = .ok (.ireturn, 1) := by decide +kernel
theorem dX8_count_119 : decode cX8_count 119 = .ok (.aload_n 0, 1) := by decide +kernel
theorem dX8_count_120 : decode cX8_count 120 = .ok (.getfield 153, 3) := by decide +kernel
theorem dX8_count_123 : decode cX8_count 123 = .ok (.ireturn, 1) := by decide +kernel
theorem dX8_count_124 : decode cX8_count 124 = .ok (.aload_n 0, 1) := by decide +kernel
theorem dX8_count_125 : decode cX8_count 125 = .ok (.getfield 54, 3) := by decide +kernel
theorem dX8_count_128 : decode cX8_count 128 = .ok (.invokevirtual 220, 3) := by decide +kernel
theorem dX8_count_131 : decode cX8_count 131 = .ok (.ireturn, 1) := by decide +kernel
theorem dX8_count_132 : decode cX8_count 132 = .ok (.aload_n 0, 1) := by decide +kernel
theorem dX8_count_133 : decode cX8_count 133 = .ok (.getfield 168, 3) := by decide +kernel
theorem dX8_count_136 : decode cX8_count 136 = .ok (.ireturn, 1) := by decide +kernel
theorem dX8_count_137 : decode cX8_count 137 = .ok (.iconst (-1), 1) := by decide +kernel
theorem dX8_count_138 : decode cX8_count 138 = .ok (.ireturn, 1) := by decide +kernel
theorem dX8_isWithin_0 : decode cX8_isWithin 0 = .ok (.iload_n 0, 1) := by decide +kernel
theorem dX8_isWithin_1 : decode cX8_isWithin 1 = .ok (.iload_n 1, 1) := by decide +kernel
theorem dX8_isWithin_2 : decode cX8_isWithin 2 = .ok (.if_icmp .lt 12, 3) := by decide +kernel
theorem dX8_isWithin_5 : decode cX8_isWithin 5 = .ok (.iload_n 0, 1) := by decide +kernel
theorem dX8_isWithin_6 : decode cX8_isWithin 6 = .ok (.iload_n 2, 1) := by decide +kernel
theorem dX8_isWithin_7 : decode cX8_isWithin 7 = .ok (.if_icmp .gt 7, 3) := by decide +kernel
theorem dX8_isWithin_10 : decode cX8_isWithin 10 = .ok (.iconst 1, 1) := by decide +kernel
theorem dX8_isWithin_11 : decode cX8_isWithin 11 = .ok (.goto 4, 3) := by decide +kernel
theorem dX8_isWithin_14 : decode cX8_isWithin 14 = .ok (.iconst 0, 1) := by decide +kernel
theorem dX8_isWithin_15 : decode cX8_isWithin 15 = .ok (.ireturn, 1) := by decide +kernel
set_option maxRecDepth 20000 in
theorem ggX8_isYear_X8_isWithin : GoodIn wsX8_isYear wsX8_isWithin := goodIn_r _ [4] (by decide +kernel) (by decide +kernel)
set_option maxRecDepth 20000 in
theorem gX8_isYear_X8_isWithin : GoodIn wsX8_isYear (va_wsS RX8 98 yX8_isWithin wsX8_isWithin) := goodIn_app (goodIn_of _ (by decide +kernel)) ggX8_isYear_X8_isWithin
theorem dX8_isYear_0 : decode cX8_isYear 0 = .ok (.iload_n 0, 1) := by decide +kernel
theorem dX8_isYear_1 : decode cX8_isYear 1 = .ok (.iconst 0, 1) := by decide +kernel
theorem dX8_isYear_2 : decode cX8_isYear 2 = .ok (.bipush 19, 2) := by decide +kernel
theorem dX8_isYear_4 : decode cX8_isYear 4 = .ok (.invokestatic 98, 3) := by decide +kernel
theorem dX8_isYear_7 : decode cX8_isYear 7 = .ok (.ireturn, 1) := by decide +kernel
set_option maxRecDepth 20000 in
theorem ggX8_isWorks_X8_isWithin : GoodIn wsX8_isWorks wsX8_isWithin := goodIn_r _ [5] (by decide +kernel) (by decide +kernel)
set_option maxRecDepth 20000 in
theorem gX8_isWorks_X8_isWithin : GoodIn wsX8_isWorks (va_wsS RX8 98 yX8_isWithin wsX8_isWithin) := goodIn_app (goodIn_of _ (by decide +kernel)) ggX8_isWorks_X8_isWithin
theorem dX8_isWorks_0 : decode cX8_isWorks 0 = .ok (.iload_n 1, 1) := by decide +kernel
theorem dX8_isWorks_1 : decode cX8_isWorks 1 = .ok (.iconst 0, 1) := by decide +kernel
theorem dX8_isWorks_2 : decode cX8_isWorks 2 = .ok (.aload_n 0, 1) := by decide +kernel
theorem dX8_isWorks_3 : decode cX8_isWorks 3 = .ok (.getfield 67, 3) := by decide +kernel
theorem dX8_isWorks_6 : decode cX8_isWorks 6 = .ok (.iconst 1, 1) := by decide +kernel
theorem dX8_isWorks_7 : decode cX8_isWorks 7 = .ok (.isub, 1) := by decide +kernel
theorem dX8_isWorks_8 : decode cX8_isWorks 8 = .ok (.invokestatic 98, 3) := by decide +kernel
theorem dX8_isWorks_11 : decode cX8_isWorks 11 = .ok (.ireturn, 1) := by decide +kernel
set_option maxRecDepth 20000 in
theorem ggX8_holdsAsMany_X8_isWorks : GoodIn wsX8_holdsAsMany wsX8_isWorks := goodIn_r _ [6, 7, 8, 9, 5, 10, 23, 24, 25, 26, 27, 28, 29, 30, 31, 32, 33, 34, 35] (by decide +kernel) (by decide +kernel)
set_option maxRecDepth 20000 in
theorem gX8_holdsAsMany_X8_isWorks : GoodIn wsX8_holdsAsMany (wsV RX8 92 RX8 yX8_isWorks wsX8_isWorks) := goodIn_app (goodIn_of _ (by decide +kernel)) ggX8_holdsAsMany_X8_isWorks
set_option maxRecDepth 20000 in
theorem ggX8_holdsAsMany_X5_heldBy : GoodIn wsX8_holdsAsMany wsX5_heldBy := goodIn_r _ [15, 16, 17, 18, 19, 20, 21, 22, 36, 37, 38, 39, 40, 41, 42, 43, 44, 45, 46, 47, 48] (by decide +kernel) (by decide +kernel)
set_option maxRecDepth 20000 in
theorem gX8_holdsAsMany_X5_heldBy : GoodIn wsX8_holdsAsMany (wsV RX8 134 RX5 yX5_heldBy wsX5_heldBy) := goodIn_app (goodIn_of _ (by decide +kernel)) ggX8_holdsAsMany_X5_heldBy
set_option maxRecDepth 20000 in
theorem ggX8_holdsAsMany_X8_isWithin : GoodIn wsX8_holdsAsMany wsX8_isWithin := goodIn_r _ [10] (by decide +kernel) (by decide +kernel)
set_option maxRecDepth 20000 in
theorem gX8_holdsAsMany_X8_isWithin : GoodIn wsX8_holdsAsMany (va_wsS RX8 98 yX8_isWithin wsX8_isWithin) := goodIn_app (goodIn_of _ (by decide +kernel)) ggX8_holdsAsMany_X8_isWithin
theorem dX8_holdsAsMany_0 : decode cX8_holdsAsMany 0 = .ok (.aload_n 0, 1) := by decide +kernel
theorem dX8_holdsAsMany_1 : decode cX8_holdsAsMany 1 = .ok (.iload_n 1, 1) := by decide +kernel
theorem dX8_holdsAsMany_2 : decode cX8_holdsAsMany 2 = .ok (.invokevirtual 92, 3) := by decide +kernel
theorem dX8_holdsAsMany_5 : decode cX8_holdsAsMany 5 = .ok (.ifCond .eq 23, 3) := by decide +kernel
theorem dX8_holdsAsMany_8 : decode cX8_holdsAsMany 8 = .ok (.iload_n 2, 1) := by decide +kernel
theorem dX8_holdsAsMany_9 : decode cX8_holdsAsMany 9 = .ok (.iconst 1, 1) := by decide +kernel
theorem dX8_holdsAsMany_10 : decode cX8_holdsAsMany 10 = .ok (.aload_n 0, 1) := by decide +kernel
theorem dX8_holdsAsMany_11 : decode cX8_holdsAsMany 11 = .ok (.getfield 26, 3) := by decide +kernel
theorem dX8_holdsAsMany_14 : decode cX8_holdsAsMany 14 = .ok (.iload_n 1, 1) := by decide +kernel
theorem dX8_holdsAsMany_15 : decode cX8_holdsAsMany 15 = .ok (.invokevirtual 134, 3) := by decide +kernel
theorem dX8_holdsAsMany_18 : decode cX8_holdsAsMany 18 = .ok (.invokestatic 98, 3) := by decide +kernel
theorem dX8_holdsAsMany_21 : decode cX8_holdsAsMany 21 = .ok (.ifCond .eq 7, 3) := by decide +kernel
theorem dX8_holdsAsMany_24 : decode cX8_holdsAsMany 24 = .ok (.iconst 1, 1) := by decide +kernel
theorem dX8_holdsAsMany_25 : decode cX8_holdsAsMany 25 = .ok (.goto 4, 3) := by decide +kernel
theorem dX8_holdsAsMany_28 : decode cX8_holdsAsMany 28 = .ok (.iconst 0, 1) := by decide +kernel
theorem dX8_holdsAsMany_29 : decode cX8_holdsAsMany 29 = .ok (.ireturn, 1) := by decide +kernel
set_option maxRecDepth 20000 in
theorem ggX8_hammer_X1_many : GoodIn wsX8_hammer wsX1_many := goodIn_r _ [11, 12, 88, 89, 90, 91, 92] (by decide +kernel) (by decide +kernel)
set_option maxRecDepth 20000 in
theorem gX8_hammer_X1_many : GoodIn wsX8_hammer (wsV RX8 140 RX1 yX1_many wsX1_many) := goodIn_app (goodIn_of _ (by decide +kernel)) ggX8_hammer_X1_many
set_option maxRecDepth 20000 in
theorem ggX8_hammer_X1_price : GoodIn wsX8_hammer wsX1_price := goodIn_r _ [16, 17, 18, 19, 20, 21, 22, 23, 88, 89, 90, 91, 92, 93] (by decide +kernel) (by decide +kernel)
set_option maxRecDepth 20000 in
theorem gX8_hammer_X1_price : GoodIn wsX8_hammer (wsV RX8 223 RX1 yX1_price wsX1_price) := goodIn_app (goodIn_of _ (by decide +kernel)) ggX8_hammer_X1_price
set_option maxRecDepth 20000 in
theorem ggX8_hammer_X1_wanted : GoodIn wsX8_hammer wsX1_wanted := goodIn_r _ [27, 28, 18, 19, 20, 21, 22, 23, 88, 89, 90, 91, 92, 93] (by decide +kernel) (by decide +kernel)
set_option maxRecDepth 20000 in
theorem gX8_hammer_X1_wanted : GoodIn wsX8_hammer (wsV RX8 226 RX1 yX1_wanted wsX1_wanted) := goodIn_app (goodIn_of _ (by decide +kernel)) ggX8_hammer_X1_wanted
set_option maxRecDepth 20000 in
theorem ggX8_hammer_X5_heldBy : GoodIn wsX8_hammer wsX5_heldBy := goodIn_r _ [33, 34, 35, 19, 20, 21, 22, 23, 94, 95, 96, 97, 98, 99, 100, 101, 102, 103, 104, 105, 93] (by decide +kernel) (by decide +kernel)
set_option maxRecDepth 20000 in
theorem gX8_hammer_X5_heldBy : GoodIn wsX8_hammer (wsV RX8 134 RX5 yX5_heldBy wsX5_heldBy) := goodIn_app (goodIn_of _ (by decide +kernel)) ggX8_hammer_X5_heldBy
set_option maxRecDepth 20000 in
theorem ggX8_hammer_X1_who : GoodIn wsX8_hammer wsX1_who := goodIn_r _ [39, 40, 18, 19, 20, 21, 22, 23, 88, 89, 90, 91, 92, 93] (by decide +kernel) (by decide +kernel)
set_option maxRecDepth 20000 in
theorem gX8_hammer_X1_who : GoodIn wsX8_hammer (wsV RX8 147 RX1 yX1_who wsX1_who) := goodIn_app (goodIn_of _ (by decide +kernel)) ggX8_hammer_X1_who
set_option maxRecDepth 20000 in
theorem ggX8_hammer_X5_pass : GoodIn wsX8_hammer wsX5_pass := goodIn_r _ [44, 45, 46, 47, 48, 4, 5, 6, 34, 49, 50, 51, 32, 52, 53, 35, 19, 20, 21, 22, 23, 54, 55, 56, 57, 58, 59, 60, 61, 62, 63, 64, 65, 66, 67, 68, 94, 95, 96, 97, 98, 99, 100, 101, 102, 103, 104, 105, 93] (by decide +kernel) (by decide +kernel)
set_option maxRecDepth 20000 in
theorem gX8_hammer_X5_pass : GoodIn wsX8_hammer (wsV RX8 164 RX5 yX5_pass wsX5_pass) := goodIn_app (goodIn_of _ (by decide +kernel)) ggX8_hammer_X5_pass
set_option maxRecDepth 20000 in
theorem ggX8_hammer_X1_grant : GoodIn wsX8_hammer wsX1_grant := goodIn_r _ [72, 73, 74, 60, 61, 21, 62, 23, 88, 89, 90, 91, 92, 93] (by decide +kernel) (by decide +kernel)
set_option maxRecDepth 20000 in
theorem gX8_hammer_X1_grant : GoodIn wsX8_hammer (wsV RX8 234 RX1 yX1_grant wsX1_grant) := goodIn_app (goodIn_of _ (by decide +kernel)) ggX8_hammer_X1_grant
theorem dX8_hammer_0 : decode cX8_hammer 0 = .ok (.iload_n 1, 1) := by decide +kernel
theorem dX8_hammer_1 : decode cX8_hammer 1 = .ok (.istore_n 2, 1) := by decide +kernel
theorem dX8_hammer_2 : decode cX8_hammer 2 = .ok (.iconst 0, 1) := by decide +kernel
theorem dX8_hammer_3 : decode cX8_hammer 3 = .ok (.istore_n 3, 1) := by decide +kernel
theorem dX8_hammer_4 : decode cX8_hammer 4 = .ok (.iload_n 3, 1) := by decide +kernel
theorem dX8_hammer_5 : decode cX8_hammer 5 = .ok (.aload_n 0, 1) := by decide +kernel
theorem dX8_hammer_6 : decode cX8_hammer 6 = .ok (.getfield 40, 3) := by decide +kernel
theorem dX8_hammer_9 : decode cX8_hammer 9 = .ok (.invokevirtual 140, 3) := by decide +kernel
theorem dX8_hammer_12 : decode cX8_hammer 12 = .ok (.if_icmp .ge 84, 3) := by decide +kernel
theorem dX8_hammer_15 : decode cX8_hammer 15 = .ok (.aload_n 0, 1) := by decide +kernel
theorem dX8_hammer_16 : decode cX8_hammer 16 = .ok (.getfield 40, 3) := by decide +kernel
theorem dX8_hammer_19 : decode cX8_hammer 19 = .ok (.iload_n 3, 1) := by decide +kernel
theorem dX8_hammer_20 : decode cX8_hammer 20 = .ok (.invokevirtual 223, 3) := by decide +kernel
theorem dX8_hammer_23 : decode cX8_hammer 23 = .ok (.iload_n 1, 1) := by decide +kernel
theorem dX8_hammer_24 : decode cX8_hammer 24 = .ok (.if_icmp .lt 72, 3) := by decide +kernel
theorem dX8_hammer_27 : decode cX8_hammer 27 = .ok (.aload_n 0, 1) := by decide +kernel
theorem dX8_hammer_28 : decode cX8_hammer 28 = .ok (.getfield 40, 3) := by decide +kernel
theorem dX8_hammer_31 : decode cX8_hammer 31 = .ok (.iload_n 3, 1) := by decide +kernel
theorem dX8_hammer_32 : decode cX8_hammer 32 = .ok (.invokevirtual 226, 3) := by decide +kernel
theorem dX8_hammer_35 : decode cX8_hammer 35 = .ok (.aload_n 0, 1) := by decide +kernel
theorem dX8_hammer_36 : decode cX8_hammer 36 = .ok (.getfield 26, 3) := by decide +kernel
theorem dX8_hammer_39 : decode cX8_hammer 39 = .ok (.iconst (-1), 1) := by decide +kernel
theorem dX8_hammer_40 : decode cX8_hammer 40 = .ok (.invokevirtual 134, 3) := by decide +kernel
theorem dX8_hammer_43 : decode cX8_hammer 43 = .ok (.invokestatic 229, 3) := by decide +kernel
theorem dX8_hammer_46 : decode cX8_hammer 46 = .ok (.istore 4, 2) := by decide +kernel
theorem dX8_hammer_48 : decode cX8_hammer 48 = .ok (.iload 4, 2) := by decide +kernel
theorem dX8_hammer_50 : decode cX8_hammer 50 = .ok (.ifCond .le 40, 3) := by decide +kernel
theorem dX8_hammer_53 : decode cX8_hammer 53 = .ok (.aload_n 0, 1) := by decide +kernel
theorem dX8_hammer_54 : decode cX8_hammer 54 = .ok (.getfield 26, 3) := by decide +kernel
theorem dX8_hammer_57 : decode cX8_hammer 57 = .ok (.iconst (-1), 1) := by decide +kernel
theorem dX8_hammer_58 : decode cX8_hammer 58 = .ok (.aload_n 0, 1) := by decide +kernel
theorem dX8_hammer_59 : decode cX8_hammer 59 = .ok (.getfield 40, 3) := by decide +kernel
theorem dX8_hammer_62 : decode cX8_hammer 62 = .ok (.iload_n 3, 1) := by decide +kernel
theorem dX8_hammer_63 : decode cX8_hammer 63 = .ok (.invokevirtual 147, 3) := by decide +kernel
theorem dX8_hammer_66 : decode cX8_hammer 66 = .ok (.iload 4, 2) := by decide +kernel
theorem dX8_hammer_68 : decode cX8_hammer 68 = .ok (.invokevirtual 164, 3) := by decide +kernel
theorem dX8_hammer_71 : decode cX8_hammer 71 = .ok (.aload_n 0, 1) := by decide +kernel
theorem dX8_hammer_72 : decode cX8_hammer 72 = .ok (.getfield 40, 3) := by decide +kernel
theorem dX8_hammer_75 : decode cX8_hammer 75 = .ok (.iload_n 3, 1) := by decide +kernel
theorem dX8_hammer_76 : decode cX8_hammer 76 = .ok (.iload 4, 2) := by decide +kernel
theorem dX8_hammer_78 : decode cX8_hammer 78 = .ok (.invokevirtual 234, 3) := by decide +kernel
theorem dX8_hammer_81 : decode cX8_hammer 81 = .ok (.aload_n 0, 1) := by decide +kernel
theorem dX8_hammer_82 : decode cX8_hammer 82 = .ok (.getfield 40, 3) := by decide +kernel
theorem dX8_hammer_85 : decode cX8_hammer 85 = .ok (.iload_n 3, 1) := by decide +kernel
theorem dX8_hammer_86 : decode cX8_hammer 86 = .ok (.invokevirtual 223, 3) := by decide +kernel
theorem dX8_hammer_89 : decode cX8_hammer 89 = .ok (.istore_n 2, 1) := by decide +kernel
theorem dX8_hammer_90 : decode cX8_hammer 90 = .ok (.iinc 3 1, 3) := by decide +kernel
theorem dX8_hammer_93 : decode cX8_hammer 93 = .ok (.goto (-89), 3) := by decide +kernel
theorem dX8_hammer_96 : decode cX8_hammer 96 = .ok (.aload_n 0, 1) := by decide +kernel
theorem dX8_hammer_97 : decode cX8_hammer 97 = .ok (.getfield 26, 3) := by decide +kernel
theorem dX8_hammer_100 : decode cX8_hammer 100 = .ok (.iconst (-1), 1) := by decide +kernel
theorem dX8_hammer_101 : decode cX8_hammer 101 = .ok (.invokevirtual 134, 3) := by decide +kernel
theorem dX8_hammer_104 : decode cX8_hammer 104 = .ok (.ifCond .ne 7, 3) := by decide +kernel
theorem dX8_hammer_107 : decode cX8_hammer 107 = .ok (.iload_n 2, 1) := by decide +kernel
theorem dX8_hammer_108 : decode cX8_hammer 108 = .ok (.goto 4, 3) := by decide +kernel
theorem dX8_hammer_111 : decode cX8_hammer 111 = .ok (.iload_n 1, 1) := by decide +kernel
theorem dX8_hammer_112 : decode cX8_hammer 112 = .ok (.ireturn, 1) := by decide +kernel
set_option maxRecDepth 20000 in
theorem ggX8_undo_X5_isHeld : GoodIn wsX8_undo wsX5_isHeld := goodIn_r _ [7, 8, 9, 10, 11, 12, 13, 14, 56, 57, 58, 59, 60, 61, 62, 63, 64, 65, 66, 67, 68] (by decide +kernel) (by decide +kernel)
set_option maxRecDepth 20000 in
theorem gX8_undo_X5_isHeld : GoodIn wsX8_undo (wsV RX8 237 RX5 yX5_isHeld wsX5_isHeld) := goodIn_app (goodIn_of _ (by decide +kernel)) ggX8_undo_X5_isHeld
set_option maxRecDepth 20000 in
theorem ggX8_undo_X5_strikeOne : GoodIn wsX8_undo wsX5_strikeOne := goodIn_r _ [18, 8, 19, 20, 21, 22, 23, 24, 12, 25, 14, 9, 10, 11, 13, 26, 27, 28, 29, 30, 31, 56, 57, 58, 59, 60, 61, 62, 63, 64, 65, 66, 67, 68] (by decide +kernel) (by decide +kernel)
set_option maxRecDepth 20000 in
theorem gX8_undo_X5_strikeOne : GoodIn wsX8_undo (wsV RX8 240 RX5 yX5_strikeOne wsX5_strikeOne) := goodIn_app (goodIn_of _ (by decide +kernel)) ggX8_undo_X5_strikeOne
set_option maxRecDepth 20000 in
theorem ggX8_undo_X5_holderOf : GoodIn wsX8_undo wsX5_holderOf := goodIn_r _ [35, 20, 9, 10, 11, 12, 13, 14, 56, 57, 58, 59, 60, 61, 62, 63, 64, 65, 66, 67, 68] (by decide +kernel) (by decide +kernel)
set_option maxRecDepth 20000 in
theorem gX8_undo_X5_holderOf : GoodIn wsX8_undo (wsV RX8 244 RX5 yX5_holderOf wsX5_holderOf) := goodIn_app (goodIn_of _ (by decide +kernel)) ggX8_undo_X5_holderOf
set_option maxRecDepth 20000 in
theorem ggX8_undo_X3_owe : GoodIn wsX8_undo wsX3_owe := goodIn_r _ [40, 41, 42, 27, 28, 12, 29, 30, 10, 11, 13, 14, 31, 23, 24, 25, 69, 70, 71, 72, 73, 68] (by decide +kernel) (by decide +kernel)
set_option maxRecDepth 20000 in
theorem gX8_undo_X3_owe : GoodIn wsX8_undo (wsV RX8 247 RX3 yX3_owe wsX3_owe) := goodIn_app (goodIn_of _ (by decide +kernel)) ggX8_undo_X3_owe
theorem dX8_undo_0 : decode cX8_undo 0 = .ok (.aload_n 0, 1) := by decide +kernel
theorem dX8_undo_1 : decode cX8_undo 1 = .ok (.getfield 26, 3) := by decide +kernel
theorem dX8_undo_4 : decode cX8_undo 4 = .ok (.iload_n 1, 1) := by decide +kernel
theorem dX8_undo_5 : decode cX8_undo 5 = .ok (.invokevirtual 237, 3) := by decide +kernel
theorem dX8_undo_8 : decode cX8_undo 8 = .ok (.ifCond .eq 13, 3) := by decide +kernel
theorem dX8_undo_11 : decode cX8_undo 11 = .ok (.aload_n 0, 1) := by decide +kernel
theorem dX8_undo_12 : decode cX8_undo 12 = .ok (.getfield 26, 3) := by decide +kernel
theorem dX8_undo_15 : decode cX8_undo 15 = .ok (.iload_n 1, 1) := by decide +kernel
theorem dX8_undo_16 : decode cX8_undo 16 = .ok (.invokevirtual 240, 3) := by decide +kernel
theorem dX8_undo_19 : decode cX8_undo 19 = .ok (.iconst 0, 1) := by decide +kernel
theorem dX8_undo_20 : decode cX8_undo 20 = .ok (.ireturn, 1) := by decide +kernel
theorem dX8_undo_21 : decode cX8_undo 21 = .ok (.aload_n 0, 1) := by decide +kernel
theorem dX8_undo_22 : decode cX8_undo 22 = .ok (.getfield 54, 3) := by decide +kernel
theorem dX8_undo_25 : decode cX8_undo 25 = .ok (.aload_n 0, 1) := by decide +kernel
theorem dX8_undo_26 : decode cX8_undo 26 = .ok (.getfield 26, 3) := by decide +kernel
theorem dX8_undo_29 : decode cX8_undo 29 = .ok (.iload_n 1, 1) := by decide +kernel
theorem dX8_undo_30 : decode cX8_undo 30 = .ok (.invokevirtual 244, 3) := by decide +kernel
theorem dX8_undo_33 : decode cX8_undo 33 = .ok (.iconst 1, 1) := by decide +kernel
theorem dX8_undo_34 : decode cX8_undo 34 = .ok (.invokevirtual 247, 3) := by decide +kernel
theorem dX8_undo_37 : decode cX8_undo 37 = .ok (.iconst 1, 1) := by decide +kernel
theorem dX8_undo_38 : decode cX8_undo 38 = .ok (.ireturn, 1) := by decide +kernel
set_option maxRecDepth 20000 in
theorem ggX8_settle_X4_fouledIn : GoodIn wsX8_settle wsX4_fouledIn := goodIn_r _ [14, 15, 16, 17, 18, 13, 19, 20, 21, 7, 22, 23, 24, 25, 26, 27, 28, 29, 30, 31, 32, 33, 34, 35, 114, 115] (by decide +kernel) (by decide +kernel)
set_option maxRecDepth 20000 in
theorem gX8_settle_X4_fouledIn : GoodIn wsX8_settle (wsV RX8 105 RX4 yX4_fouledIn wsX4_fouledIn) := goodIn_app (goodIn_of _ (by decide +kernel)) ggX8_settle_X4_fouledIn
set_option maxRecDepth 20000 in
theorem ggX8_settle_X3_debtOf : GoodIn wsX8_settle wsX3_debtOf := goodIn_r _ [40, 41, 42, 31, 32, 33, 34, 35, 116, 117, 118, 119, 120, 115] (by decide +kernel) (by decide +kernel)
set_option maxRecDepth 20000 in
theorem gX8_settle_X3_debtOf : GoodIn wsX8_settle (wsV RX8 250 RX3 yX3_debtOf wsX3_debtOf) := goodIn_app (goodIn_of _ (by decide +kernel)) ggX8_settle_X3_debtOf
set_option maxRecDepth 20000 in
theorem ggX8_settle_X5_heldBy : GoodIn wsX8_settle wsX5_heldBy := goodIn_r _ [47, 48, 49, 31, 32, 33, 34, 35, 121, 122, 123, 124, 125, 126, 127, 128, 129, 130, 131, 132, 115] (by decide +kernel) (by decide +kernel)
set_option maxRecDepth 20000 in
theorem gX8_settle_X5_heldBy : GoodIn wsX8_settle (wsV RX8 134 RX5 yX5_heldBy wsX5_heldBy) := goodIn_app (goodIn_of _ (by decide +kernel)) ggX8_settle_X5_heldBy
set_option maxRecDepth 20000 in
theorem ggX8_settle_X5_use : GoodIn wsX8_settle wsX5_use := goodIn_r _ [53, 54, 55, 48, 56, 57, 58, 59, 46, 60, 61, 62, 63, 49, 31, 32, 33, 34, 35, 64, 65, 66, 67, 68, 69, 70, 71, 72, 73, 74, 75, 76, 77, 121, 122, 123, 124, 125, 126, 127, 128, 129, 130, 131, 132, 115] (by decide +kernel) (by decide +kernel)
set_option maxRecDepth 20000 in
theorem gX8_settle_X5_use : GoodIn wsX8_settle (wsV RX8 253 RX5 yX5_use wsX5_use) := goodIn_app (goodIn_of _ (by decide +kernel)) ggX8_settle_X5_use
set_option maxRecDepth 20000 in
theorem ggX8_settle_X7_fineIn : GoodIn wsX8_settle wsX7_fineIn := goodIn_r _ [82, 83, 84, 85, 86, 81, 87, 88, 89, 90, 31, 32, 33, 34, 35, 133, 134, 135, 136, 137, 138, 139, 115] (by decide +kernel) (by decide +kernel)
set_option maxRecDepth 20000 in
theorem gX8_settle_X7_fineIn : GoodIn wsX8_settle (wsV RX8 86 RX7 yX7_fineIn wsX7_fineIn) := goodIn_app (goodIn_of _ (by decide +kernel)) ggX8_settle_X7_fineIn
set_option maxRecDepth 20000 in
theorem ggX8_settle_X3_close : GoodIn wsX8_settle wsX3_close := goodIn_r _ [94, 95, 96, 97, 98, 41, 99, 73, 74, 33, 75, 76, 31, 32, 34, 35, 77, 69, 70, 71, 100, 116, 117, 118, 119, 120, 115] (by decide +kernel) (by decide +kernel)
set_option maxRecDepth 20000 in
theorem gX8_settle_X3_close : GoodIn wsX8_settle (wsV RX8 256 RX3 yX3_close wsX3_close) := goodIn_app (goodIn_of _ (by decide +kernel)) ggX8_settle_X3_close
theorem dX8_settle_0 : decode cX8_settle 0 = .ok (.aload_n 0, 1) := by decide +kernel
theorem dX8_settle_1 : decode cX8_settle 1 = .ok (.getfield 19, 3) := by decide +kernel
theorem dX8_settle_4 : decode cX8_settle 4 = .ok (.iload_n 1, 1) := by decide +kernel
theorem dX8_settle_5 : decode cX8_settle 5 = .ok (.aload_n 0, 1) := by decide +kernel
theorem dX8_settle_6 : decode cX8_settle 6 = .ok (.getfield 95, 3) := by decide +kernel
theorem dX8_settle_9 : decode cX8_settle 9 = .ok (.invokevirtual 105, 3) := by decide +kernel
theorem dX8_settle_12 : decode cX8_settle 12 = .ok (.aload_n 0, 1) := by decide +kernel
theorem dX8_settle_13 : decode cX8_settle 13 = .ok (.getfield 54, 3) := by decide +kernel
theorem dX8_settle_16 : decode cX8_settle 16 = .ok (.iload_n 1, 1) := by decide +kernel
theorem dX8_settle_17 : decode cX8_settle 17 = .ok (.invokevirtual 250, 3) := by decide +kernel
theorem dX8_settle_20 : decode cX8_settle 20 = .ok (.iadd, 1) := by decide +kernel
theorem dX8_settle_21 : decode cX8_settle 21 = .ok (.istore_n 2, 1) := by decide +kernel
theorem dX8_settle_22 : decode cX8_settle 22 = .ok (.iload_n 2, 1) := by decide +kernel
theorem dX8_settle_23 : decode cX8_settle 23 = .ok (.aload_n 0, 1) := by decide +kernel
theorem dX8_settle_24 : decode cX8_settle 24 = .ok (.getfield 26, 3) := by decide +kernel
theorem dX8_settle_27 : decode cX8_settle 27 = .ok (.iload_n 1, 1) := by decide +kernel
theorem dX8_settle_28 : decode cX8_settle 28 = .ok (.invokevirtual 134, 3) := by decide +kernel
theorem dX8_settle_31 : decode cX8_settle 31 = .ok (.invokestatic 229, 3) := by decide +kernel
theorem dX8_settle_34 : decode cX8_settle 34 = .ok (.istore_n 3, 1) := by decide +kernel
theorem dX8_settle_35 : decode cX8_settle 35 = .ok (.aload_n 0, 1) := by decide +kernel
theorem dX8_settle_36 : decode cX8_settle 36 = .ok (.getfield 26, 3) := by decide +kernel
theorem dX8_settle_39 : decode cX8_settle 39 = .ok (.iload_n 1, 1) := by decide +kernel
theorem dX8_settle_40 : decode cX8_settle 40 = .ok (.iload_n 3, 1) := by decide +kernel
theorem dX8_settle_41 : decode cX8_settle 41 = .ok (.aload_n 0, 1) := by decide +kernel
theorem dX8_settle_42 : decode cX8_settle 42 = .ok (.getfield 95, 3) := by decide +kernel
theorem dX8_settle_45 : decode cX8_settle 45 = .ok (.invokevirtual 253, 3) := by decide +kernel
theorem dX8_settle_48 : decode cX8_settle 48 = .ok (.aload_n 0, 1) := by decide +kernel
theorem dX8_settle_49 : decode cX8_settle 49 = .ok (.getfield 54, 3) := by decide +kernel
theorem dX8_settle_52 : decode cX8_settle 52 = .ok (.iload_n 1, 1) := by decide +kernel
theorem dX8_settle_53 : decode cX8_settle 53 = .ok (.iload_n 3, 1) := by decide +kernel
theorem dX8_settle_54 : decode cX8_settle 54 = .ok (.iload_n 2, 1) := by decide +kernel
theorem dX8_settle_55 : decode cX8_settle 55 = .ok (.iload_n 3, 1) := by decide +kernel
theorem dX8_settle_56 : decode cX8_settle 56 = .ok (.isub, 1) := by decide +kernel
theorem dX8_settle_57 : decode cX8_settle 57 = .ok (.aload_n 0, 1) := by decide +kernel
theorem dX8_settle_58 : decode cX8_settle 58 = .ok (.getfield 10, 3) := by decide +kernel
theorem dX8_settle_61 : decode cX8_settle 61 = .ok (.aload_n 0, 1) := by decide +kernel
theorem dX8_settle_62 : decode cX8_settle 62 = .ok (.getfield 95, 3) := by decide +kernel
theorem dX8_settle_65 : decode cX8_settle 65 = .ok (.invokevirtual 86, 3) := by decide +kernel
theorem dX8_settle_68 : decode cX8_settle 68 = .ok (.invokevirtual 256, 3) := by decide +kernel
theorem dX8_settle_71 : decode cX8_settle 71 = .ok (.iload_n 2, 1) := by decide +kernel
theorem dX8_settle_72 : decode cX8_settle 72 = .ok (.iload_n 3, 1) := by decide +kernel
theorem dX8_settle_73 : decode cX8_settle 73 = .ok (.isub, 1) := by decide +kernel
theorem dX8_settle_74 : decode cX8_settle 74 = .ok (.ireturn, 1) := by decide +kernel
theorem dX9_init_0 : decode cX9_init 0 = .ok (.aload_n 0, 1) := by decide +kernel
theorem dX9_init_1 : decode cX9_init 1 = .ok (.invokespecial 1, 3) := by decide +kernel
theorem dX9_init_4 : decode cX9_init 4 = .ok (.aload_n 0, 1) := by decide +kernel
theorem dX9_init_5 : decode cX9_init 5 = .ok (.bipush 10, 2) := by decide +kernel
theorem dX9_init_7 : decode cX9_init 7 = .ok (.newarray .int, 2) := by decide +kernel
theorem dX9_init_9 : decode cX9_init 9 = .ok (.putfield 9, 3) := by decide +kernel
theorem dX9_init_12 : decode cX9_init 12 = .ok (.aload_n 0, 1) := by decide +kernel
theorem dX9_init_13 : decode cX9_init 13 = .ok (.bipush 10, 2) := by decide +kernel
theorem dX9_init_15 : decode cX9_init 15 = .ok (.newarray .int, 2) := by decide +kernel
theorem dX9_init_17 : decode cX9_init 17 = .ok (.putfield 13, 3) := by decide +kernel
theorem dX9_init_20 : decode cX9_init 20 = .ok (.aload_n 0, 1) := by decide +kernel
theorem dX9_init_21 : decode cX9_init 21 = .ok (.bipush 10, 2) := by decide +kernel
theorem dX9_init_23 : decode cX9_init 23 = .ok (.newarray .int, 2) := by decide +kernel
theorem dX9_init_25 : decode cX9_init 25 = .ok (.putfield 16, 3) := by decide +kernel
theorem dX9_init_28 : decode cX9_init 28 = .ok (.aload_n 0, 1) := by decide +kernel
theorem dX9_init_29 : decode cX9_init 29 = .ok (.sipush 800, 3) := by decide +kernel
theorem dX9_init_32 : decode cX9_init 32 = .ok (.newarray .int, 2) := by decide +kernel
theorem dX9_init_34 : decode cX9_init 34 = .ok (.putfield 19, 3) := by decide +kernel
theorem dX9_init_37 : decode cX9_init 37 = .ok (.aload_n 0, 1) := by decide +kernel
theorem dX9_init_38 : decode cX9_init 38 = .ok (.bipush 30, 2) := by decide +kernel
theorem dX9_init_40 : decode cX9_init 40 = .ok (.newarray .int, 2) := by decide +kernel
theorem dX9_init_42 : decode cX9_init 42 = .ok (.putfield 22, 3) := by decide +kernel
theorem dX9_init_45 : decode cX9_init 45 = .ok (.aload_n 0, 1) := by decide +kernel
theorem dX9_init_46 : decode cX9_init 46 = .ok (.bipush 30, 2) := by decide +kernel
theorem dX9_init_48 : decode cX9_init 48 = .ok (.newarray .int, 2) := by decide +kernel
theorem dX9_init_50 : decode cX9_init 50 = .ok (.putfield 25, 3) := by decide +kernel
theorem dX9_init_53 : decode cX9_init 53 = .ok (.aload_n 0, 1) := by decide +kernel
theorem dX9_init_54 : decode cX9_init 54 = .ok (.bipush 30, 2) := by decide +kernel
theorem dX9_init_56 : decode cX9_init 56 = .ok (.newarray .int, 2) := by decide +kernel
theorem dX9_init_58 : decode cX9_init 58 = .ok (.putfield 28, 3) := by decide +kernel
theorem dX9_init_61 : decode cX9_init 61 = .ok (.aload_n 0, 1) := by decide +kernel
theorem dX9_init_62 : decode cX9_init 62 = .ok (.sipush 4000, 3) := by decide +kernel
theorem dX9_init_65 : decode cX9_init 65 = .ok (.newarray .int, 2) := by decide +kernel
theorem dX9_init_67 : decode cX9_init 67 = .ok (.putfield 31, 3) := by decide +kernel
theorem dX9_init_70 : decode cX9_init 70 = .ok (.aload_n 0, 1) := by decide +kernel
theorem dX9_init_71 : decode cX9_init 71 = .ok (.sipush 4000, 3) := by decide +kernel
theorem dX9_init_74 : decode cX9_init 74 = .ok (.newarray .int, 2) := by decide +kernel
theorem dX9_init_76 : decode cX9_init 76 = .ok (.putfield 34, 3) := by decide +kernel
theorem dX9_init_79 : decode cX9_init 79 = .ok (.aload_n 0, 1) := by decide +kernel
theorem dX9_init_80 : decode cX9_init 80 = .ok (.sipush 4000, 3) := by decide +kernel
theorem dX9_init_83 : decode cX9_init 83 = .ok (.newarray .int, 2) := by decide +kernel
theorem dX9_init_85 : decode cX9_init 85 = .ok (.putfield 37, 3) := by decide +kernel
theorem dX9_init_88 : decode cX9_init 88 = .ok (.aload_n 0, 1) := by decide +kernel
theorem dX9_init_89 : decode cX9_init 89 = .ok (.sipush 4000, 3) := by decide +kernel
theorem dX9_init_92 : decode cX9_init 92 = .ok (.newarray .int, 2) := by decide +kernel
theorem dX9_init_94 : decode cX9_init 94 = .ok (.putfield 40, 3) := by decide +kernel
theorem dX9_init_97 : decode cX9_init 97 = .ok (.aload_n 0, 1) := by decide +kernel
theorem dX9_init_98 : decode cX9_init 98 = .ok (.sipush 4000, 3) := by decide +kernel
theorem dX9_init_101 : decode cX9_init 101 = .ok (.newarray .int, 2) := by decide +kernel
theorem dX9_init_103 : decode cX9_init 103 = .ok (.putfield 43, 3) := by decide +kernel
theorem dX9_init_106 : decode cX9_init 106 = .ok (.aload_n 0, 1) := by decide +kernel
theorem dX9_init_107 : decode cX9_init 107 = .ok (.sipush 4000, 3) := by decide +kernel
theorem dX9_init_110 : decode cX9_init 110 = .ok (.newarray .int, 2) := by decide +kernel
theorem dX9_init_112 : decode cX9_init 112 = .ok (.putfield 46, 3) := by decide +kernel
theorem dX9_init_115 : decode cX9_init 115 = .ok (.aload_n 0, 1) := by decide +kernel
theorem dX9_init_116 : decode cX9_init 116 = .ok (.iconst (-1), 1) := by decide +kernel
theorem dX9_init_117 : decode cX9_init 117 = .ok (.putfield 49, 3) := by decide +kernel
theorem dX9_init_120 : decode cX9_init 120 = .ok (.aload_n 0, 1) := by decide +kernel
theorem dX9_init_121 : decode cX9_init 121 = .ok (.bipush 40, 2) := by decide +kernel
theorem dX9_init_123 : decode cX9_init 123 = .ok (.newarray .int, 2) := by decide +kernel
theorem dX9_init_125 : decode cX9_init 125 = .ok (.putfield 53, 3) := by decide +kernel
theorem dX9_init_128 : decode cX9_init 128 = .ok (.aload_n 0, 1) := by decide +kernel
theorem dX9_init_129 : decode cX9_init 129 = .ok (.bipush 40, 2) := by decide +kernel
theorem dX9_init_131 : decode cX9_init 131 = .ok (.newarray .int, 2) := by decide +kernel
theorem dX9_init_133 : decode cX9_init 133 = .ok (.putfield 56, 3) := by decide +kernel
theorem dX9_init_136 : decode cX9_init 136 = .ok (.aload_n 0, 1) := by decide +kernel
theorem dX9_init_137 : decode cX9_init 137 = .ok (.bipush 40, 2) := by decide +kernel
theorem dX9_init_139 : decode cX9_init 139 = .ok (.newarray .int, 2) := by decide +kernel
theorem dX9_init_141 : decode cX9_init 141 = .ok (.putfield 59, 3) := by decide +kernel
theorem dX9_init_144 : decode cX9_init 144 = .ok (.aload_n 0, 1) := by decide +kernel
theorem dX9_init_145 : decode cX9_init 145 = .ok (.bipush 20, 2) := by decide +kernel
theorem dX9_init_147 : decode cX9_init 147 = .ok (.newarray .boolean, 2) := by decide +kernel
theorem dX9_init_149 : decode cX9_init 149 = .ok (.putfield 62, 3) := by decide +kernel
theorem dX9_init_152 : decode cX9_init 152 = .ok (.aload_n 0, 1) := by decide +kernel
theorem dX9_init_153 : decode cX9_init 153 = .ok (.bipush 10, 2) := by decide +kernel
theorem dX9_init_155 : decode cX9_init 155 = .ok (.newarray .int, 2) := by decide +kernel
theorem dX9_init_157 : decode cX9_init 157 = .ok (.putfield 66, 3) := by decide +kernel
theorem dX9_init_160 : decode cX9_init 160 = .ok (.aload_n 0, 1) := by decide +kernel
theorem dX9_init_161 : decode cX9_init 161 = .ok (.bipush 40, 2) := by decide +kernel
theorem dX9_init_163 : decode cX9_init 163 = .ok (.newarray .int, 2) := by decide +kernel
theorem dX9_init_165 : decode cX9_init 165 = .ok (.putfield 69, 3) := by decide +kernel
theorem dX9_init_168 : decode cX9_init 168 = .ok (.aload_n 0, 1) := by decide +kernel
theorem dX9_init_169 : decode cX9_init 169 = .ok (.bipush 40, 2) := by decide +kernel
theorem dX9_init_171 : decode cX9_init 171 = .ok (.newarray .int, 2) := by decide +kernel
theorem dX9_init_173 : decode cX9_init 173 = .ok (.putfield 72, 3) := by decide +kernel
theorem dX9_init_176 : decode cX9_init 176 = .ok (.aload_n 0, 1) := by decide +kernel
theorem dX9_init_177 : decode cX9_init 177 = .ok (.bipush 10, 2) := by decide +kernel
theorem dX9_init_179 : decode cX9_init 179 = .ok (.newarray .int, 2) := by decide +kernel
theorem dX9_init_181 : decode cX9_init 181 = .ok (.putfield 75, 3) := by decide +kernel
theorem dX9_init_184 : decode cX9_init 184 = .ok (.aload_n 0, 1) := by decide +kernel
theorem dX9_init_185 : decode cX9_init 185 = .ok (.bipush 10, 2) := by decide +kernel
theorem dX9_init_187 : decode cX9_init 187 = .ok (.newarray .int, 2) := by decide +kernel
theorem dX9_init_189 : decode cX9_init 189 = .ok (.putfield 78, 3) := by decide +kernel
theorem dX9_init_192 : decode cX9_init 192 = .ok (.aload_n 0, 1) := by decide +kernel
theorem dX9_init_193 : decode cX9_init 193 = .ok (.bipush 40, 2) := by decide +kernel
theorem dX9_init_195 : decode cX9_init 195 = .ok (.newarray .int, 2) := by decide +kernel
theorem dX9_init_197 : decode cX9_init 197 = .ok (.putfield 81, 3) := by decide +kernel
theorem dX9_init_200 : decode cX9_init 200 = .ok (.aload_n 0, 1) := by decide +kernel
theorem dX9_init_201 : decode cX9_init 201 = .ok (.bipush 10, 2) := by decide +kernel
theorem dX9_init_203 : decode cX9_init 203 = .ok (.newarray .int, 2) := by decide +kernel
theorem dX9_init_205 : decode cX9_init 205 = .ok (.putfield 84, 3) := by decide +kernel
theorem dX9_init_208 : decode cX9_init 208 = .ok (.iconst 0, 1) := by decide +kernel
theorem dX9_init_209 : decode cX9_init 209 = .ok (.istore_n 1, 1) := by decide +kernel
theorem dX9_init_210 : decode cX9_init 210 = .ok (.iload_n 1, 1) := by decide +kernel
theorem dX9_init_211 : decode cX9_init 211 = .ok (.sipush 800, 3) := by decide +kernel
theorem dX9_init_214 : decode cX9_init 214 = .ok (.if_icmp .ge 16, 3) := by decide +kernel
theorem dX9_init_217 : decode cX9_init 217 = .ok (.aload_n 0, 1) := by decide +kernel
theorem dX9_init_218 : decode cX9_init 218 = .ok (.getfield 19, 3) := by decide +kernel
theorem dX9_init_221 : decode cX9_init 221 = .ok (.iload_n 1, 1) := by decide +kernel
theorem dX9_init_222 : decode cX9_init 222 = .ok (.iconst (-1), 1) := by decide +kernel
theorem dX9_init_223 : decode cX9_init 223 = .ok (.iastore, 1) := by decide +kernel
theorem dX9_init_224 : decode cX9_init 224 = .ok (.iinc 1 1, 3) := by decide +kernel
theorem dX9_init_227 : decode cX9_init 227 = .ok (.goto (-17), 3) := by decide +kernel
theorem dX9_init_230 : decode cX9_init 230 = .ok (.return_, 1) := by decide +kernel
theorem dX9_in_0 : decode cX9_in 0 = .ok (.iload_n 0, 1) := by decide +kernel
theorem dX9_in_1 : decode cX9_in 1 = .ok (.iload_n 1, 1) := by decide +kernel
theorem dX9_in_2 : decode cX9_in 2 = .ok (.if_icmp .lt 12, 3) := by decide +kernel
theorem dX9_in_5 : decode cX9_in 5 = .ok (.iload_n 0, 1) := by decide +kernel
theorem dX9_in_6 : decode cX9_in 6 = .ok (.iload_n 2, 1) := by decide +kernel
theorem dX9_in_7 : decode cX9_in 7 = .ok (.if_icmp .gt 7, 3) := by decide +kernel
theorem dX9_in_10 : decode cX9_in 10 = .ok (.iconst 1, 1) := by decide +kernel
theorem dX9_in_11 : decode cX9_in 11 = .ok (.goto 4, 3) := by decide +kernel
theorem dX9_in_14 : decode cX9_in 14 = .ok (.iconst 0, 1) := by decide +kernel
theorem dX9_in_15 : decode cX9_in 15 = .ok (.ireturn, 1) := by decide +kernel
set_option maxRecDepth 20000 in
theorem ggX9_isWorks_X9_in : GoodIn wsX9_isWorks wsX9_in := goodIn_r _ [5] (by decide +kernel) (by decide +kernel)
set_option maxRecDepth 20000 in
theorem gX9_isWorks_X9_in : GoodIn wsX9_isWorks (va_wsS RX9 90 yX9_in wsX9_in) := goodIn_app (goodIn_of _ (by decide +kernel)) ggX9_isWorks_X9_in
theorem dX9_isWorks_0 : decode cX9_isWorks 0 = .ok (.iload_n 1, 1) := by decide +kernel
theorem dX9_isWorks_1 : decode cX9_isWorks 1 = .ok (.iconst 0, 1) := by decide +kernel
theorem dX9_isWorks_2 : decode cX9_isWorks 2 = .ok (.aload_n 0, 1) := by decide +kernel
theorem dX9_isWorks_3 : decode cX9_isWorks 3 = .ok (.getfield 87, 3) := by decide +kernel
theorem dX9_isWorks_6 : decode cX9_isWorks 6 = .ok (.iconst 1, 1) := by decide +kernel
theorem dX9_isWorks_7 : decode cX9_isWorks 7 = .ok (.isub, 1) := by decide +kernel
theorem dX9_isWorks_8 : decode cX9_isWorks 8 = .ok (.invokestatic 90, 3) := by decide +kernel
theorem dX9_isWorks_11 : decode cX9_isWorks 11 = .ok (.ireturn, 1) := by decide +kernel
theorem dX9_works_0 : decode cX9_works 0 = .ok (.aload_n 0, 1) := by decide +kernel
theorem dX9_works_1 : decode cX9_works 1 = .ok (.getfield 87, 3) := by decide +kernel
theorem dX9_works_4 : decode cX9_works 4 = .ok (.bipush 10, 2) := by decide +kernel
theorem dX9_works_6 : decode cX9_works 6 = .ok (.if_icmp .ne 5, 3) := by decide +kernel
theorem dX9_works_9 : decode cX9_works 9 = .ok (.iconst (-1), 1) := by decide +kernel
theorem dX9_works_10 : decode cX9_works 10 = .ok (.ireturn, 1) := by decide +kernel
theorem dX9_works_11 : decode cX9_works 11 = .ok (.aload_n 0, 1) := by decide +kernel
theorem dX9_works_12 : decode cX9_works 12 = .ok (.dup, 1) := by decide +kernel
theorem dX9_works_13 : decode cX9_works 13 = .ok (.getfield 87, 3) := by decide +kernel
theorem dX9_works_16 : decode cX9_works 16 = .ok (.iconst 1, 1) := by decide +kernel
theorem dX9_works_17 : decode cX9_works 17 = .ok (.iadd, 1) := by decide +kernel
theorem dX9_works_18 : decode cX9_works 18 = .ok (.putfield 87, 3) := by decide +kernel
theorem dX9_works_21 : decode cX9_works 21 = .ok (.aload_n 0, 1) := by decide +kernel
theorem dX9_works_22 : decode cX9_works 22 = .ok (.getfield 87, 3) := by decide +kernel
theorem dX9_works_25 : decode cX9_works 25 = .ok (.iconst 1, 1) := by decide +kernel
theorem dX9_works_26 : decode cX9_works 26 = .ok (.isub, 1) := by decide +kernel
theorem dX9_works_27 : decode cX9_works 27 = .ok (.ireturn, 1) := by decide +kernel
set_option maxRecDepth 20000 in
theorem ggX9_rule_X9_in : GoodIn wsX9_rule wsX9_in := goodIn_r _ [9] (by decide +kernel) (by decide +kernel)
set_option maxRecDepth 20000 in
theorem gX9_rule_X9_in : GoodIn wsX9_rule (va_wsS RX9 90 yX9_in wsX9_in) := goodIn_app (goodIn_of _ (by decide +kernel)) ggX9_rule_X9_in
theorem dX9_rule_0 : decode cX9_rule 0 = .ok (.iload_n 1, 1) := by decide +kernel
theorem dX9_rule_1 : decode cX9_rule 1 = .ok (.iconst 0, 1) := by decide +kernel
theorem dX9_rule_2 : decode cX9_rule 2 = .ok (.bipush 19, 2) := by decide +kernel
theorem dX9_rule_4 : decode cX9_rule 4 = .ok (.invokestatic 90, 3) := by decide +kernel
theorem dX9_rule_7 : decode cX9_rule 7 = .ok (.ifCond .eq 64, 3) := by decide +kernel
theorem dX9_rule_10 : decode cX9_rule 10 = .ok (.iload_n 2, 1) := by decide +kernel
theorem dX9_rule_11 : decode cX9_rule 11 = .ok (.ifCond .lt 60, 3) := by decide +kernel
theorem dX9_rule_14 : decode cX9_rule 14 = .ok (.iload_n 3, 1) := by decide +kernel
theorem dX9_rule_15 : decode cX9_rule 15 = .ok (.ifCond .lt 56, 3) := by decide +kernel
theorem dX9_rule_18 : decode cX9_rule 18 = .ok (.iload_n 2, 1) := by decide +kernel
theorem dX9_rule_19 : decode cX9_rule 19 = .ok (.sipush 1000, 3) := by decide +kernel
theorem dX9_rule_22 : decode cX9_rule 22 = .ok (.idiv, 1) := by decide +kernel
theorem dX9_rule_23 : decode cX9_rule 23 = .ok (.sipush 400, 3) := by decide +kernel
theorem dX9_rule_26 : decode cX9_rule 26 = .ok (.if_icmp .gt 45, 3) := by decide +kernel
theorem dX9_rule_29 : decode cX9_rule 29 = .ok (.iload_n 2, 1) := by decide +kernel
theorem dX9_rule_30 : decode cX9_rule 30 = .ok (.sipush 1000, 3) := by decide +kernel
theorem dX9_rule_33 : decode cX9_rule 33 = .ok (.irem, 1) := by decide +kernel
theorem dX9_rule_34 : decode cX9_rule 34 = .ok (.bipush 100, 2) := by decide +kernel
theorem dX9_rule_36 : decode cX9_rule 36 = .ok (.if_icmp .gt 35, 3) := by decide +kernel
theorem dX9_rule_39 : decode cX9_rule 39 = .ok (.iload_n 3, 1) := by decide +kernel
theorem dX9_rule_40 : decode cX9_rule 40 = .ok (.ldc 94, 2) := by decide +kernel
theorem dX9_rule_42 : decode cX9_rule 42 = .ok (.idiv, 1) := by decide +kernel
theorem dX9_rule_43 : decode cX9_rule 43 = .ok (.bipush 100, 2) := by decide +kernel
theorem dX9_rule_45 : decode cX9_rule 45 = .ok (.if_icmp .gt 26, 3) := by decide +kernel
theorem dX9_rule_48 : decode cX9_rule 48 = .ok (.iload_n 3, 1) := by decide +kernel
theorem dX9_rule_49 : decode cX9_rule 49 = .ok (.bipush 100, 2) := by decide +kernel
theorem dX9_rule_51 : decode cX9_rule 51 = .ok (.idiv, 1) := by decide +kernel
theorem dX9_rule_52 : decode cX9_rule 52 = .ok (.sipush 1000, 3) := by decide +kernel
theorem dX9_rule_55 : decode cX9_rule 55 = .ok (.irem, 1) := by decide +kernel
theorem dX9_rule_56 : decode cX9_rule 56 = .ok (.sipush 999, 3) := by decide +kernel
theorem dX9_rule_59 : decode cX9_rule 59 = .ok (.if_icmp .gt 12, 3) := by decide +kernel
theorem dX9_rule_62 : decode cX9_rule 62 = .ok (.aload_n 0, 1) := by decide +kernel
theorem dX9_rule_63 : decode cX9_rule 63 = .ok (.getfield 95, 3) := by decide +kernel
theorem dX9_rule_66 : decode cX9_rule 66 = .ok (.bipush 30, 2) := by decide +kernel
theorem dX9_rule_68 : decode cX9_rule 68 = .ok (.if_icmp .ne 5, 3) := by decide +kernel
theorem dX9_rule_71 : decode cX9_rule 71 = .ok (.iconst 0, 1) := by decide +kernel
theorem dX9_rule_72 : decode cX9_rule 72 = .ok (.ireturn, 1) := by decide +kernel
theorem dX9_rule_73 : decode cX9_rule 73 = .ok (.aload_n 0, 1) := by decide +kernel
theorem dX9_rule_74 : decode cX9_rule 74 = .ok (.getfield 22, 3) := by decide +kernel
theorem dX9_rule_77 : decode cX9_rule 77 = .ok (.aload_n 0, 1) := by decide +kernel
theorem dX9_rule_78 : decode cX9_rule 78 = .ok (.getfield 95, 3) := by decide +kernel
theorem dX9_rule_81 : decode cX9_rule 81 = .ok (.iload_n 1, 1) := by decide +kernel
theorem dX9_rule_82 : decode cX9_rule 82 = .ok (.iastore, 1) := by decide +kernel
theorem dX9_rule_83 : decode cX9_rule 83 = .ok (.aload_n 0, 1) := by decide +kernel
theorem dX9_rule_84 : decode cX9_rule 84 = .ok (.getfield 25, 3) := by decide +kernel
theorem dX9_rule_87 : decode cX9_rule 87 = .ok (.aload_n 0, 1) := by decide +kernel
theorem dX9_rule_88 : decode cX9_rule 88 = .ok (.getfield 95, 3) := by decide +kernel
theorem dX9_rule_91 : decode cX9_rule 91 = .ok (.iload_n 2, 1) := by decide +kernel
theorem dX9_rule_92 : decode cX9_rule 92 = .ok (.iastore, 1) := by decide +kernel
theorem dX9_rule_93 : decode cX9_rule 93 = .ok (.aload_n 0, 1) := by decide +kernel
theorem dX9_rule_94 : decode cX9_rule 94 = .ok (.getfield 28, 3) := by decide +kernel
theorem dX9_rule_97 : decode cX9_rule 97 = .ok (.aload_n 0, 1) := by decide +kernel
theorem dX9_rule_98 : decode cX9_rule 98 = .ok (.getfield 95, 3) := by decide +kernel
theorem dX9_rule_101 : decode cX9_rule 101 = .ok (.iload_n 3, 1) := by decide +kernel
theorem dX9_rule_102 : decode cX9_rule 102 = .ok (.iastore, 1) := by decide +kernel
theorem dX9_rule_103 : decode cX9_rule 103 = .ok (.aload_n 0, 1) := by decide +kernel
theorem dX9_rule_104 : decode cX9_rule 104 = .ok (.dup, 1) := by decide +kernel
theorem dX9_rule_105 : decode cX9_rule 105 = .ok (.getfield 95, 3) := by decide +kernel
theorem dX9_rule_108 : decode cX9_rule 108 = .ok (.iconst 1, 1) := by decide +kernel
theorem dX9_rule_109 : decode cX9_rule 109 = .ok (.iadd, 1) := by decide +kernel
theorem dX9_rule_110 : decode cX9_rule 110 = .ok (.putfield 95, 3) := by decide +kernel
theorem dX9_rule_113 : decode cX9_rule 113 = .ok (.iconst 1, 1) := by decide +kernel
theorem dX9_rule_114 : decode cX9_rule 114 = .ok (.ireturn, 1) := by decide +kernel
theorem dX9_ruleOf_0 : decode cX9_ruleOf 0 = .ok (.iconst (-1), 1) := by decide +kernel
theorem dX9_ruleOf_1 : decode cX9_ruleOf 1 = .ok (.istore_n 2, 1) := by decide +kernel
theorem dX9_ruleOf_2 : decode cX9_ruleOf 2 = .ok (.iconst 0, 1) := by decide +kernel
theorem dX9_ruleOf_3 : decode cX9_ruleOf 3 = .ok (.istore_n 3, 1) := by decide +kernel
theorem dX9_ruleOf_4 : decode cX9_ruleOf 4 = .ok (.iload_n 3, 1) := by decide +kernel
theorem dX9_ruleOf_5 : decode cX9_ruleOf 5 = .ok (.aload_n 0, 1) := by decide +kernel
theorem dX9_ruleOf_6 : decode cX9_ruleOf 6 = .ok (.getfield 95, 3) := by decide +kernel
theorem dX9_ruleOf_9 : decode cX9_ruleOf 9 = .ok (.if_icmp .ge 41, 3) := by decide +kernel
theorem dX9_ruleOf_12 : decode cX9_ruleOf 12 = .ok (.aload_n 0, 1) := by decide +kernel
theorem dX9_ruleOf_13 : decode cX9_ruleOf 13 = .ok (.getfield 22, 3) := by decide +kernel
theorem dX9_ruleOf_16 : decode cX9_ruleOf 16 = .ok (.iload_n 3, 1) := by decide +kernel
theorem dX9_ruleOf_17 : decode cX9_ruleOf 17 = .ok (.iaload, 1) := by decide +kernel
theorem dX9_ruleOf_18 : decode cX9_ruleOf 18 = .ok (.iload_n 1, 1) := by decide +kernel
theorem dX9_ruleOf_19 : decode cX9_ruleOf 19 = .ok (.if_icmp .gt 25, 3) := by decide +kernel
theorem dX9_ruleOf_22 : decode cX9_ruleOf 22 = .ok (.iload_n 2, 1) := by decide +kernel
theorem dX9_ruleOf_23 : decode cX9_ruleOf 23 = .ok (.iconst (-1), 1) := by decide +kernel
theorem dX9_ruleOf_24 : decode cX9_ruleOf 24 = .ok (.if_icmp .eq 18, 3) := by decide +kernel
theorem dX9_ruleOf_27 : decode cX9_ruleOf 27 = .ok (.aload_n 0, 1) := by decide +kernel
theorem dX9_ruleOf_28 : decode cX9_ruleOf 28 = .ok (.getfield 22, 3) := by decide +kernel
theorem dX9_ruleOf_31 : decode cX9_ruleOf 31 = .ok (.iload_n 3, 1) := by decide +kernel
theorem dX9_ruleOf_32 : decode cX9_ruleOf 32 = .ok (.iaload, 1) := by decide +kernel
theorem dX9_ruleOf_33 : decode cX9_ruleOf 33 = .ok (.aload_n 0, 1) := by decide +kernel
theorem dX9_ruleOf_34 : decode cX9_ruleOf 34 = .ok (.getfield 22, 3) := by decide +kernel
theorem dX9_ruleOf_37 : decode cX9_ruleOf 37 = .ok (.iload_n 2, 1) := by decide +kernel
theorem dX9_ruleOf_38 : decode cX9_ruleOf 38 = .ok (.iaload, 1) := by decide +kernel
theorem dX9_ruleOf_39 : decode cX9_ruleOf 39 = .ok (.if_icmp .lt 5, 3) := by decide +kernel
theorem dX9_ruleOf_42 : decode cX9_ruleOf 42 = .ok (.iload_n 3, 1) := by decide +kernel
theorem dX9_ruleOf_43 : decode cX9_ruleOf 43 = .ok (.istore_n 2, 1) := by decide +kernel
theorem dX9_ruleOf_44 : decode cX9_ruleOf 44 = .ok (.iinc 3 1, 3) := by decide +kernel
theorem dX9_ruleOf_47 : decode cX9_ruleOf 47 = .ok (.goto (-43), 3) := by decide +kernel
theorem dX9_ruleOf_50 : decode cX9_ruleOf 50 = .ok (.iload_n 2, 1) := by decide +kernel
theorem dX9_ruleOf_51 : decode cX9_ruleOf 51 = .ok (.ireturn, 1) := by decide +kernel
set_option maxRecDepth 20000 in
theorem ggX9_capOf_X9_ruleOf : GoodIn wsX9_capOf wsX9_ruleOf := goodIn_r _ [7, 8, 2, 9, 10, 11, 12, 13, 14, 15, 16, 17, 18, 19, 20, 21, 22, 23, 24, 25, 26, 27, 28, 29, 30, 31, 32, 33, 34, 35, 36, 37, 38, 39, 40, 41, 42] (by decide +kernel) (by decide +kernel)
set_option maxRecDepth 20000 in
theorem gX9_capOf_X9_ruleOf : GoodIn wsX9_capOf (wsV RX9 98 RX9 yX9_ruleOf wsX9_ruleOf) := goodIn_app (goodIn_of _ (by decide +kernel)) ggX9_capOf_X9_ruleOf
theorem dX9_capOf_0 : decode cX9_capOf 0 = .ok (.aload_n 0, 1) := by decide +kernel
theorem dX9_capOf_1 : decode cX9_capOf 1 = .ok (.iload_n 1, 1) := by decide +kernel
theorem dX9_capOf_2 : decode cX9_capOf 2 = .ok (.invokevirtual 98, 3) := by decide +kernel
theorem dX9_capOf_5 : decode cX9_capOf 5 = .ok (.istore_n 2, 1) := by decide +kernel
theorem dX9_capOf_6 : decode cX9_capOf 6 = .ok (.iload_n 2, 1) := by decide +kernel
theorem dX9_capOf_7 : decode cX9_capOf 7 = .ok (.iconst (-1), 1) := by decide +kernel
theorem dX9_capOf_8 : decode cX9_capOf 8 = .ok (.if_icmp .ne 7, 3) := by decide +kernel
theorem dX9_capOf_11 : decode cX9_capOf 11 = .ok (.iconst 0, 1) := by decide +kernel
theorem dX9_capOf_12 : decode cX9_capOf 12 = .ok (.goto 13, 3) := by decide +kernel
theorem dX9_capOf_15 : decode cX9_capOf 15 = .ok (.aload_n 0, 1) := by decide +kernel
theorem dX9_capOf_16 : decode cX9_capOf 16 = .ok (.getfield 25, 3) := by decide +kernel
theorem dX9_capOf_19 : decode cX9_capOf 19 = .ok (.iload_n 2, 1) := by decide +kernel
theorem dX9_capOf_20 : decode cX9_capOf 20 = .ok (.iaload, 1) := by decide +kernel
theorem dX9_capOf_21 : decode cX9_capOf 21 = .ok (.sipush 1000, 3) := by decide +kernel
theorem dX9_capOf_24 : decode cX9_capOf 24 = .ok (.idiv, 1) := by decide +kernel
theorem dX9_capOf_25 : decode cX9_capOf 25 = .ok (.istore_n 3, 1) := by decide +kernel
theorem dX9_capOf_26 : decode cX9_capOf 26 = .ok (.iload_n 2, 1) := by decide +kernel
theorem dX9_capOf_27 : decode cX9_capOf 27 = .ok (.iconst (-1), 1) := by decide +kernel
theorem dX9_capOf_28 : decode cX9_capOf 28 = .ok (.if_icmp .ne 7, 3) := by decide +kernel
theorem dX9_capOf_31 : decode cX9_capOf 31 = .ok (.iload_n 1, 1) := by decide +kernel
theorem dX9_capOf_32 : decode cX9_capOf 32 = .ok (.goto 9, 3) := by decide +kernel
theorem dX9_capOf_35 : decode cX9_capOf 35 = .ok (.aload_n 0, 1) := by decide +kernel
theorem dX9_capOf_36 : decode cX9_capOf 36 = .ok (.getfield 22, 3) := by decide +kernel
theorem dX9_capOf_39 : decode cX9_capOf 39 = .ok (.iload_n 2, 1) := by decide +kernel
theorem dX9_capOf_40 : decode cX9_capOf 40 = .ok (.iaload, 1) := by decide +kernel
theorem dX9_capOf_41 : decode cX9_capOf 41 = .ok (.istore 4, 2) := by decide +kernel
theorem dX9_capOf_43 : decode cX9_capOf 43 = .ok (.iload 4, 2) := by decide +kernel
theorem dX9_capOf_45 : decode cX9_capOf 45 = .ok (.iload_n 1, 1) := by decide +kernel
theorem dX9_capOf_46 : decode cX9_capOf 46 = .ok (.if_icmp .ge 27, 3) := by decide +kernel
theorem dX9_capOf_49 : decode cX9_capOf 49 = .ok (.iload_n 3, 1) := by decide +kernel
theorem dX9_capOf_50 : decode cX9_capOf 50 = .ok (.iload_n 3, 1) := by decide +kernel
theorem dX9_capOf_51 : decode cX9_capOf 51 = .ok (.aload_n 0, 1) := by decide +kernel
theorem dX9_capOf_52 : decode cX9_capOf 52 = .ok (.getfield 25, 3) := by decide +kernel
theorem dX9_capOf_55 : decode cX9_capOf 55 = .ok (.iload_n 2, 1) := by decide +kernel
theorem dX9_capOf_56 : decode cX9_capOf 56 = .ok (.iaload, 1) := by decide +kernel
theorem dX9_capOf_57 : decode cX9_capOf 57 = .ok (.sipush 1000, 3) := by decide +kernel
theorem dX9_capOf_60 : decode cX9_capOf 60 = .ok (.irem, 1) := by decide +kernel
theorem dX9_capOf_61 : decode cX9_capOf 61 = .ok (.imul, 1) := by decide +kernel
theorem dX9_capOf_62 : decode cX9_capOf 62 = .ok (.bipush 100, 2) := by decide +kernel
theorem dX9_capOf_64 : decode cX9_capOf 64 = .ok (.idiv, 1) := by decide +kernel
theorem dX9_capOf_65 : decode cX9_capOf 65 = .ok (.isub, 1) := by decide +kernel
theorem dX9_capOf_66 : decode cX9_capOf 66 = .ok (.istore_n 3, 1) := by decide +kernel
theorem dX9_capOf_67 : decode cX9_capOf 67 = .ok (.iinc 4 1, 3) := by decide +kernel
theorem dX9_capOf_70 : decode cX9_capOf 70 = .ok (.goto (-27), 3) := by decide +kernel
theorem dX9_capOf_73 : decode cX9_capOf 73 = .ok (.iload_n 3, 1) := by decide +kernel
theorem dX9_capOf_74 : decode cX9_capOf 74 = .ok (.ireturn, 1) := by decide +kernel
set_option maxRecDepth 20000 in
theorem ggX9_partOf_X9_ruleOf : GoodIn wsX9_partOf wsX9_ruleOf := goodIn_r _ [6, 7, 8, 9, 10, 11, 12, 13, 14, 15, 16, 17, 18, 19, 20, 21, 22, 23, 24, 25, 26, 27, 28, 29, 30, 31, 32, 33, 34, 35, 36, 37, 38, 39, 40, 41, 42] (by decide +kernel) (by decide +kernel)
set_option maxRecDepth 20000 in
theorem gX9_partOf_X9_ruleOf : GoodIn wsX9_partOf (wsV RX9 98 RX9 yX9_ruleOf wsX9_ruleOf) := goodIn_app (goodIn_of _ (by decide +kernel)) ggX9_partOf_X9_ruleOf
theorem dX9_partOf_0 : decode cX9_partOf 0 = .ok (.aload_n 0, 1) := by decide +kernel
theorem dX9_partOf_1 : decode cX9_partOf 1 = .ok (.iload_n 1, 1) := by decide +kernel
theorem dX9_partOf_2 : decode cX9_partOf 2 = .ok (.invokevirtual 98, 3) := by decide +kernel
theorem dX9_partOf_5 : decode cX9_partOf 5 = .ok (.istore 4, 2) := by decide +kernel
theorem dX9_partOf_7 : decode cX9_partOf 7 = .ok (.iload 4, 2) := by decide +kernel
theorem dX9_partOf_9 : decode cX9_partOf 9 = .ok (.iconst (-1), 1) := by decide +kernel
theorem dX9_partOf_10 : decode cX9_partOf 10 = .ok (.if_icmp .ne 7, 3) := by decide +kernel
theorem dX9_partOf_13 : decode cX9_partOf 13 = .ok (.iconst 0, 1) := by decide +kernel
theorem dX9_partOf_14 : decode cX9_partOf 14 = .ok (.goto 14, 3) := by decide +kernel
theorem dX9_partOf_17 : decode cX9_partOf 17 = .ok (.aload_n 0, 1) := by decide +kernel
theorem dX9_partOf_18 : decode cX9_partOf 18 = .ok (.getfield 28, 3) := by decide +kernel
theorem dX9_partOf_21 : decode cX9_partOf 21 = .ok (.iload 4, 2) := by decide +kernel
theorem dX9_partOf_23 : decode cX9_partOf 23 = .ok (.iaload, 1) := by decide +kernel
theorem dX9_partOf_24 : decode cX9_partOf 24 = .ok (.iload_n 2, 1) := by decide +kernel
theorem dX9_partOf_25 : decode cX9_partOf 25 = .ok (.idiv, 1) := by decide +kernel
theorem dX9_partOf_26 : decode cX9_partOf 26 = .ok (.iload_n 3, 1) := by decide +kernel
theorem dX9_partOf_27 : decode cX9_partOf 27 = .ok (.irem, 1) := by decide +kernel
theorem dX9_partOf_28 : decode cX9_partOf 28 = .ok (.ireturn, 1) := by decide +kernel
set_option maxRecDepth 20000 in
theorem ggX9_ruled_X9_in : GoodIn wsX9_ruled wsX9_in := goodIn_r _ [5] (by decide +kernel) (by decide +kernel)
set_option maxRecDepth 20000 in
theorem gX9_ruled_X9_in : GoodIn wsX9_ruled (va_wsS RX9 90 yX9_in wsX9_in) := goodIn_app (goodIn_of _ (by decide +kernel)) ggX9_ruled_X9_in
set_option maxRecDepth 20000 in
theorem ggX9_ruled_X9_capOf : GoodIn wsX9_ruled wsX9_capOf := goodIn_r _ [9, 10, 11, 12, 13, 14, 4, 15, 16, 22, 23, 24, 25, 26, 27, 28, 29, 30, 31, 32, 33, 34, 35, 36, 37, 38, 39, 40, 41, 42, 43, 44, 45, 46, 47, 48, 49, 50, 51, 52, 53, 54, 55] (by decide +kernel) (by decide +kernel)
set_option maxRecDepth 20000 in
theorem gX9_ruled_X9_capOf : GoodIn wsX9_ruled (wsV RX9 102 RX9 yX9_capOf wsX9_capOf) := goodIn_app (goodIn_of _ (by decide +kernel)) ggX9_ruled_X9_capOf
set_option maxRecDepth 20000 in
theorem ggX9_ruled_X9_partOf : GoodIn wsX9_ruled wsX9_partOf := goodIn_r _ [20, 21, 12, 13, 14, 4, 15, 16, 11, 22, 23, 24, 25, 26, 27, 28, 29, 30, 31, 32, 33, 34, 35, 36, 37, 38, 39, 40, 41, 42, 43, 44, 45, 46, 47, 48, 49, 50, 51, 52, 53, 54, 55] (by decide +kernel) (by decide +kernel)
set_option maxRecDepth 20000 in
theorem gX9_ruled_X9_partOf : GoodIn wsX9_ruled (wsV RX9 105 RX9 yX9_partOf wsX9_partOf) := goodIn_app (goodIn_of _ (by decide +kernel)) ggX9_ruled_X9_partOf
theorem dX9_ruled_0 : decode cX9_ruled 0 = .ok (.iload_n 1, 1) := by decide +kernel
theorem dX9_ruled_1 : decode cX9_ruled 1 = .ok (.iconst 0, 1) := by decide +kernel
theorem dX9_ruled_2 : decode cX9_ruled 2 = .ok (.bipush 19, 2) := by decide +kernel
theorem dX9_ruled_4 : decode cX9_ruled 4 = .ok (.invokestatic 90, 3) := by decide +kernel
theorem dX9_ruled_7 : decode cX9_ruled 7 = .ok (.ifCond .ne 5, 3) := by decide +kernel
theorem dX9_ruled_10 : decode cX9_ruled 10 = .ok (.iconst (-1), 1) := by decide +kernel
theorem dX9_ruled_11 : decode cX9_ruled 11 = .ok (.ireturn, 1) := by decide +kernel
theorem dX9_ruled_12 : decode cX9_ruled 12 = .ok (.iload_n 2, 1) := by decide +kernel
theorem dX9_ruled_13 : decode cX9_ruled 13 = .ok (.tableswitch 68 0 3 #[31, 37, 48, 59], 31) := by decide +kernel
theorem dX9_ruled_44 : decode cX9_ruled 44 = .ok (.aload_n 0, 1) := by decide +kernel
theorem dX9_ruled_45 : decode cX9_ruled 45 = .ok (.iload_n 1, 1) := by decide +kernel
theorem dX9_ruled_46 : decode cX9_ruled 46 = .ok (.invokevirtual 102, 3) := by decide +kernel
theorem dX9_ruled_49 : decode cX9_ruled 49 = .ok (.ireturn, 1) := by decide +kernel
theorem dX9_ruled_50 : decode cX9_ruled 50 = .ok (.aload_n 0, 1) := by decide +kernel
theorem dX9_ruled_51 : decode cX9_ruled 51 = .ok (.iload_n 1, 1) := by decide +kernel
theorem dX9_ruled_52 : decode cX9_ruled 52 = .ok (.ldc 94, 2) := by decide +kernel
theorem dX9_ruled_54 : decode cX9_ruled 54 = .ok (.sipush 1000, 3) := by decide +kernel
theorem dX9_ruled_57 : decode cX9_ruled 57 = .ok (.invokevirtual 105, 3) := by decide +kernel
theorem dX9_ruled_60 : decode cX9_ruled 60 = .ok (.ireturn, 1) := by decide +kernel
theorem dX9_ruled_61 : decode cX9_ruled 61 = .ok (.aload_n 0, 1) := by decide +kernel
theorem dX9_ruled_62 : decode cX9_ruled 62 = .ok (.iload_n 1, 1) := by decide +kernel
theorem dX9_ruled_63 : decode cX9_ruled 63 = .ok (.bipush 100, 2) := by decide +kernel
theorem dX9_ruled_65 : decode cX9_ruled 65 = .ok (.sipush 1000, 3) := by decide +kernel
theorem dX9_ruled_68 : decode cX9_ruled 68 = .ok (.invokevirtual 105, 3) := by decide +kernel
theorem dX9_ruled_71 : decode cX9_ruled 71 = .ok (.ireturn, 1) := by decide +kernel
theorem dX9_ruled_72 : decode cX9_ruled 72 = .ok (.aload_n 0, 1) := by decide +kernel
theorem dX9_ruled_73 : decode cX9_ruled 73 = .ok (.iload_n 1, 1) := by decide +kernel
theorem dX9_ruled_74 : decode cX9_ruled 74 = .ok (.iconst 1, 1) := by decide +kernel
theorem dX9_ruled_75 : decode cX9_ruled 75 = .ok (.bipush 100, 2) := by decide +kernel
theorem dX9_ruled_77 : decode cX9_ruled 77 = .ok (.invokevirtual 105, 3) := by decide +kernel
