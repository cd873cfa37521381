set_option maxRecDepth 20000 in
theorem ggX0_init_X6_init : GoodIn wsX0_init wsX6_init := goodIn_r _ [12, 13, 2, 3, 14, 15, 16, 17, 18, 19, 20, 21, 22, 23, 24] (by decide +kernel) (by decide +kernel)
set_option maxRecDepth 20000 in
theorem gX0_init_X6_init : GoodIn wsX0_init (wsX6_init) := ggX0_init_X6_init
theorem dX0_init_0 : decode cX0_init 0 = .ok (.aload_n 0, 1) := by decide +kernel
theorem dX0_init_1 : decode cX0_init 1 = .ok (.invokespecial 3, 3) := by decide +kernel
theorem dX0_init_4 : decode cX0_init 4 = .ok (.aload_n 0, 1) := by decide +kernel
theorem dX0_init_5 : decode cX0_init 5 = .ok (.new 9, 3) := by decide +kernel
theorem dX0_init_8 : decode cX0_init 8 = .ok (.dup, 1) := by decide +kernel
theorem dX0_init_9 : decode cX0_init 9 = .ok (.bipush 10, 2) := by decide +kernel
theorem dX0_init_11 : decode cX0_init 11 = .ok (.iconst 0, 1) := by decide +kernel
theorem dX0_init_12 : decode cX0_init 12 = .ok (.invokespecial 11, 3) := by decide +kernel
theorem dX0_init_15 : decode cX0_init 15 = .ok (.putfield 14, 3) := by decide +kernel
theorem dX0_init_18 : decode cX0_init 18 = .ok (.aload_n 0, 1) := by decide +kernel
theorem dX0_init_19 : decode cX0_init 19 = .ok (.new 9, 3) := by decide +kernel
theorem dX0_init_22 : decode cX0_init 22 = .ok (.dup, 1) := by decide +kernel
theorem dX0_init_23 : decode cX0_init 23 = .ok (.bipush 10, 2) := by decide +kernel
theorem dX0_init_25 : decode cX0_init 25 = .ok (.iconst 0, 1) := by decide +kernel
theorem dX0_init_26 : decode cX0_init 26 = .ok (.invokespecial 11, 3) := by decide +kernel
theorem dX0_init_29 : decode cX0_init 29 = .ok (.putfield 20, 3) := by decide +kernel
theorem dX0_init_32 : decode cX0_init 32 = .ok (.aload_n 0, 1) := by decide +kernel
theorem dX0_init_33 : decode cX0_init 33 = .ok (.new 9, 3) := by decide +kernel
theorem dX0_init_36 : decode cX0_init 36 = .ok (.dup, 1) := by decide +kernel
theorem dX0_init_37 : decode cX0_init 37 = .ok (.bipush 10, 2) := by decide +kernel
theorem dX0_init_39 : decode cX0_init 39 = .ok (.iconst 0, 1) := by decide +kernel
theorem dX0_init_40 : decode cX0_init 40 = .ok (.invokespecial 11, 3) := by decide +kernel
theorem dX0_init_43 : decode cX0_init 43 = .ok (.putfield 23, 3) := by decide +kernel
theorem dX0_init_46 : decode cX0_init 46 = .ok (.return_, 1) := by decide +kernel
set_option maxRecDepth 20000 in
theorem ggX0_partOf_X6_at : GoodIn wsX0_partOf wsX6_at := goodIn_r _ [6, 7, 11] (by decide +kernel) (by decide +kernel)
set_option maxRecDepth 20000 in
theorem gX0_partOf_X6_at : GoodIn wsX0_partOf (wsV RX0 26 RX6 yX6_at wsX6_at) := goodIn_app (goodIn_of _ (by decide +kernel)) ggX0_partOf_X6_at
theorem dX0_partOf_0 : decode cX0_partOf 0 = .ok (.aload_n 0, 1) := by decide +kernel
theorem dX0_partOf_1 : decode cX0_partOf 1 = .ok (.getfield 20, 3) := by decide +kernel
theorem dX0_partOf_4 : decode cX0_partOf 4 = .ok (.iload_n 1, 1) := by decide +kernel
theorem dX0_partOf_5 : decode cX0_partOf 5 = .ok (.invokevirtual 26, 3) := by decide +kernel
theorem dX0_partOf_8 : decode cX0_partOf 8 = .ok (.ireturn, 1) := by decide +kernel
set_option maxRecDepth 20000 in
theorem ggX0_share_X0_look : GoodIn wsX0_share wsX0_look := goodIn_r _ [8, 1, 9, 10, 11, 12, 13, 14, 15, 16, 17, 18, 19, 20, 21, 22, 23, 24, 25, 26, 27, 28, 29, 30, 31, 32, 33, 34, 35, 36, 37, 38, 39, 40, 55, 56, 57, 58, 59] (by decide +kernel) (by decide +kernel)
set_option maxRecDepth 20000 in
theorem gX0_share_X0_look : GoodIn wsX0_share (wsV RX0 30 RX0 yX0_look wsX0_look) := goodIn_app (goodIn_of _ (by decide +kernel)) ggX0_share_X0_look
set_option maxRecDepth 20000 in
theorem ggX0_share_X6_at : GoodIn wsX0_share wsX6_at := goodIn_r _ [34, 35, 59] (by decide +kernel) (by decide +kernel)
set_option maxRecDepth 20000 in
theorem gX0_share_X6_at : GoodIn wsX0_share (wsV RX0 26 RX6 yX6_at wsX6_at) := goodIn_app (goodIn_of _ (by decide +kernel)) ggX0_share_X6_at
set_option maxRecDepth 20000 in
theorem ggX0_share_X6_put : GoodIn wsX0_share wsX6_put := goodIn_r _ [39, 35, 59] (by decide +kernel) (by decide +kernel)
set_option maxRecDepth 20000 in
theorem gX0_share_X6_put : GoodIn wsX0_share (wsV RX0 34 RX6 yX6_put wsX6_put) := goodIn_app (goodIn_of _ (by decide +kernel)) ggX0_share_X6_put
set_option maxRecDepth 20000 in
theorem ggX0_share_X0_giveRest : GoodIn wsX0_share wsX0_giveRest := goodIn_r _ [44, 2, 3, 45, 46, 47, 7, 48, 40, 31, 32, 33, 34, 35, 49, 50, 51, 52, 53, 54, 37, 38, 39, 36, 55, 56, 57, 59] (by decide +kernel) (by decide +kernel)
set_option maxRecDepth 20000 in
theorem gX0_share_X0_giveRest : GoodIn wsX0_share (wsV RX0 37 RX0 yX0_giveRest wsX0_giveRest) := goodIn_app (goodIn_of _ (by decide +kernel)) ggX0_share_X0_giveRest
theorem dX0_share_0 : decode cX0_share 0 = .ok (.iload 4, 2) := by decide +kernel
theorem dX0_share_2 : decode cX0_share 2 = .ok (.ifCond .ne 7, 3) := by decide +kernel
theorem dX0_share_5 : decode cX0_share 5 = .ok (.iconst 0, 1) := by decide +kernel
theorem dX0_share_6 : decode cX0_share 6 = .ok (.goto 13, 3) := by decide +kernel
theorem dX0_share_9 : decode cX0_share 9 = .ok (.aload_n 0, 1) := by decide +kernel
theorem dX0_share_10 : decode cX0_share 10 = .ok (.aload_n 2, 1) := by decide +kernel
theorem dX0_share_11 : decode cX0_share 11 = .ok (.iload_n 3, 1) := by decide +kernel
theorem dX0_share_12 : decode cX0_share 12 = .ok (.iload 4, 2) := by decide +kernel
theorem dX0_share_14 : decode cX0_share 14 = .ok (.iconst 1, 1) := by decide +kernel
theorem dX0_share_15 : decode cX0_share 15 = .ok (.isub, 1) := by decide +kernel
theorem dX0_share_16 : decode cX0_share 16 = .ok (.invokevirtual 30, 3) := by decide +kernel
theorem dX0_share_19 : decode cX0_share 19 = .ok (.istore 5, 2) := by decide +kernel
theorem dX0_share_21 : decode cX0_share 21 = .ok (.iconst 0, 1) := by decide +kernel
theorem dX0_share_22 : decode cX0_share 22 = .ok (.istore 6, 2) := by decide +kernel
theorem dX0_share_24 : decode cX0_share 24 = .ok (.iconst 0, 1) := by decide +kernel
theorem dX0_share_25 : decode cX0_share 25 = .ok (.istore 7, 2) := by decide +kernel
theorem dX0_share_27 : decode cX0_share 27 = .ok (.iload 7, 2) := by decide +kernel
theorem dX0_share_29 : decode cX0_share 29 = .ok (.iload_n 3, 1) := by decide +kernel
theorem dX0_share_30 : decode cX0_share 30 = .ok (.if_icmp .ge 82, 3) := by decide +kernel
theorem dX0_share_33 : decode cX0_share 33 = .ok (.iload_n 1, 1) := by decide +kernel
theorem dX0_share_34 : decode cX0_share 34 = .ok (.aload_n 0, 1) := by decide +kernel
theorem dX0_share_35 : decode cX0_share 35 = .ok (.getfield 14, 3) := by decide +kernel
theorem dX0_share_38 : decode cX0_share 38 = .ok (.iload 7, 2) := by decide +kernel
theorem dX0_share_40 : decode cX0_share 40 = .ok (.invokevirtual 26, 3) := by decide +kernel
theorem dX0_share_43 : decode cX0_share 43 = .ok (.imul, 1) := by decide +kernel
theorem dX0_share_44 : decode cX0_share 44 = .ok (.istore 8, 2) := by decide +kernel
theorem dX0_share_46 : decode cX0_share 46 = .ok (.aload_n 0, 1) := by decide +kernel
theorem dX0_share_47 : decode cX0_share 47 = .ok (.getfield 20, 3) := by decide +kernel
theorem dX0_share_50 : decode cX0_share 50 = .ok (.iload 7, 2) := by decide +kernel
theorem dX0_share_52 : decode cX0_share 52 = .ok (.iload 5, 2) := by decide +kernel
theorem dX0_share_54 : decode cX0_share 54 = .ok (.ifCond .le 11, 3) := by decide +kernel
theorem dX0_share_57 : decode cX0_share 57 = .ok (.iload 8, 2) := by decide +kernel
theorem dX0_share_59 : decode cX0_share 59 = .ok (.iload 5, 2) := by decide +kernel
theorem dX0_share_61 : decode cX0_share 61 = .ok (.idiv, 1) := by decide +kernel
theorem dX0_share_62 : decode cX0_share 62 = .ok (.goto 4, 3) := by decide +kernel
theorem dX0_share_65 : decode cX0_share 65 = .ok (.iconst 0, 1) := by decide +kernel
theorem dX0_share_66 : decode cX0_share 66 = .ok (.invokevirtual 34, 3) := by decide +kernel
theorem dX0_share_69 : decode cX0_share 69 = .ok (.aload_n 0, 1) := by decide +kernel
theorem dX0_share_70 : decode cX0_share 70 = .ok (.getfield 23, 3) := by decide +kernel
theorem dX0_share_73 : decode cX0_share 73 = .ok (.iload 7, 2) := by decide +kernel
theorem dX0_share_75 : decode cX0_share 75 = .ok (.iload 5, 2) := by decide +kernel
theorem dX0_share_77 : decode cX0_share 77 = .ok (.ifCond .le 11, 3) := by decide +kernel
theorem dX0_share_80 : decode cX0_share 80 = .ok (.iload 8, 2) := by decide +kernel
theorem dX0_share_82 : decode cX0_share 82 = .ok (.iload 5, 2) := by decide +kernel
theorem dX0_share_84 : decode cX0_share 84 = .ok (.irem, 1) := by decide +kernel
theorem dX0_share_85 : decode cX0_share 85 = .ok (.goto 4, 3) := by decide +kernel
theorem dX0_share_88 : decode cX0_share 88 = .ok (.iconst 0, 1) := by decide +kernel
theorem dX0_share_89 : decode cX0_share 89 = .ok (.invokevirtual 34, 3) := by decide +kernel
theorem dX0_share_92 : decode cX0_share 92 = .ok (.iload 6, 2) := by decide +kernel
theorem dX0_share_94 : decode cX0_share 94 = .ok (.aload_n 0, 1) := by decide +kernel
theorem dX0_share_95 : decode cX0_share 95 = .ok (.getfield 20, 3) := by decide +kernel
theorem dX0_share_98 : decode cX0_share 98 = .ok (.iload 7, 2) := by decide +kernel
theorem dX0_share_100 : decode cX0_share 100 = .ok (.invokevirtual 26, 3) := by decide +kernel
theorem dX0_share_103 : decode cX0_share 103 = .ok (.iadd, 1) := by decide +kernel
theorem dX0_share_104 : decode cX0_share 104 = .ok (.istore 6, 2) := by decide +kernel
theorem dX0_share_106 : decode cX0_share 106 = .ok (.iinc 7 1, 3) := by decide +kernel
theorem dX0_share_109 : decode cX0_share 109 = .ok (.goto (-82), 3) := by decide +kernel
theorem dX0_share_112 : decode cX0_share 112 = .ok (.iload 5, 2) := by decide +kernel
theorem dX0_share_114 : decode cX0_share 114 = .ok (.ifCond .le 14, 3) := by decide +kernel
theorem dX0_share_117 : decode cX0_share 117 = .ok (.aload_n 0, 1) := by decide +kernel
theorem dX0_share_118 : decode cX0_share 118 = .ok (.iload_n 1, 1) := by decide +kernel
theorem dX0_share_119 : decode cX0_share 119 = .ok (.iload 6, 2) := by decide +kernel
theorem dX0_share_121 : decode cX0_share 121 = .ok (.iload_n 3, 1) := by decide +kernel
theorem dX0_share_122 : decode cX0_share 122 = .ok (.invokevirtual 37, 3) := by decide +kernel
theorem dX0_share_125 : decode cX0_share 125 = .ok (.goto 4, 3) := by decide +kernel
theorem dX0_share_128 : decode cX0_share 128 = .ok (.iconst 0, 1) := by decide +kernel
theorem dX0_share_129 : decode cX0_share 129 = .ok (.ireturn, 1) := by decide +kernel
set_option maxRecDepth 20000 in
theorem ggX0_look_X4_fouledIn : GoodIn wsX0_look wsX4_fouledIn := goodIn_r _ [6, 7, 8, 9, 10, 5, 11, 12, 13, 14, 15, 16, 17, 18, 19, 20, 21, 22, 23, 24, 25, 26, 27, 28, 37, 38] (by decide +kernel) (by decide +kernel)
set_option maxRecDepth 20000 in
theorem gX0_look_X4_fouledIn : GoodIn wsX0_look (wsV RX0 41 RX4 yX4_fouledIn wsX4_fouledIn) := goodIn_app (goodIn_of _ (by decide +kernel)) ggX0_look_X4_fouledIn
set_option maxRecDepth 20000 in
theorem ggX0_look_X6_put : GoodIn wsX0_look wsX6_put := goodIn_r _ [32, 28, 38] (by decide +kernel) (by decide +kernel)
set_option maxRecDepth 20000 in
theorem gX0_look_X6_put : GoodIn wsX0_look (wsV RX0 34 RX6 yX6_put wsX6_put) := goodIn_app (goodIn_of _ (by decide +kernel)) ggX0_look_X6_put
set_option maxRecDepth 20000 in
theorem ggX0_look_X6_at : GoodIn wsX0_look wsX6_at := goodIn_r _ [27, 28, 38] (by decide +kernel) (by decide +kernel)
set_option maxRecDepth 20000 in
theorem gX0_look_X6_at : GoodIn wsX0_look (wsV RX0 26 RX6 yX6_at wsX6_at) := goodIn_app (goodIn_of _ (by decide +kernel)) ggX0_look_X6_at
theorem dX0_look_0 : decode cX0_look 0 = .ok (.iconst 0, 1) := by decide +kernel
theorem dX0_look_1 : decode cX0_look 1 = .ok (.istore 4, 2) := by decide +kernel
theorem dX0_look_3 : decode cX0_look 3 = .ok (.iconst 0, 1) := by decide +kernel
theorem dX0_look_4 : decode cX0_look 4 = .ok (.istore 5, 2) := by decide +kernel
theorem dX0_look_6 : decode cX0_look 6 = .ok (.iload 5, 2) := by decide +kernel
theorem dX0_look_8 : decode cX0_look 8 = .ok (.iload_n 2, 1) := by decide +kernel
theorem dX0_look_9 : decode cX0_look 9 = .ok (.if_icmp .ge 39, 3) := by decide +kernel
theorem dX0_look_12 : decode cX0_look 12 = .ok (.aload_n 0, 1) := by decide +kernel
theorem dX0_look_13 : decode cX0_look 13 = .ok (.getfield 14, 3) := by decide +kernel
theorem dX0_look_16 : decode cX0_look 16 = .ok (.iload 5, 2) := by decide +kernel
theorem dX0_look_18 : decode cX0_look 18 = .ok (.aload_n 1, 1) := by decide +kernel
theorem dX0_look_19 : decode cX0_look 19 = .ok (.iload 5, 2) := by decide +kernel
theorem dX0_look_21 : decode cX0_look 21 = .ok (.iload_n 3, 1) := by decide +kernel
theorem dX0_look_22 : decode cX0_look 22 = .ok (.invokevirtual 41, 3) := by decide +kernel
theorem dX0_look_25 : decode cX0_look 25 = .ok (.invokevirtual 34, 3) := by decide +kernel
theorem dX0_look_28 : decode cX0_look 28 = .ok (.iload 4, 2) := by decide +kernel
theorem dX0_look_30 : decode cX0_look 30 = .ok (.aload_n 0, 1) := by decide +kernel
theorem dX0_look_31 : decode cX0_look 31 = .ok (.getfield 14, 3) := by decide +kernel
theorem dX0_look_34 : decode cX0_look 34 = .ok (.iload 5, 2) := by decide +kernel
theorem dX0_look_36 : decode cX0_look 36 = .ok (.invokevirtual 26, 3) := by decide +kernel
theorem dX0_look_39 : decode cX0_look 39 = .ok (.iadd, 1) := by decide +kernel
theorem dX0_look_40 : decode cX0_look 40 = .ok (.istore 4, 2) := by decide +kernel
theorem dX0_look_42 : decode cX0_look 42 = .ok (.iinc 5 1, 3) := by decide +kernel
theorem dX0_look_45 : decode cX0_look 45 = .ok (.goto (-39), 3) := by decide +kernel
theorem dX0_look_48 : decode cX0_look 48 = .ok (.iload 4, 2) := by decide +kernel
theorem dX0_look_50 : decode cX0_look 50 = .ok (.ireturn, 1) := by decide +kernel
set_option maxRecDepth 20000 in
theorem ggX0_giveRest_X0_mostCutOff : GoodIn wsX0_giveRest wsX0_mostCutOff := goodIn_r _ [7, 2, 8, 9, 10, 11, 12, 13, 24, 25, 26, 27] (by decide +kernel) (by decide +kernel)
set_option maxRecDepth 20000 in
theorem gX0_giveRest_X0_mostCutOff : GoodIn wsX0_giveRest (wsV RX0 47 RX0 yX0_mostCutOff wsX0_mostCutOff) := goodIn_app (goodIn_of _ (by decide +kernel)) ggX0_giveRest_X0_mostCutOff
set_option maxRecDepth 20000 in
theorem ggX0_giveRest_X6_add : GoodIn wsX0_giveRest wsX6_add := goodIn_r _ [17, 18, 9, 10, 11, 12, 13, 19, 20, 21, 22, 27] (by decide +kernel) (by decide +kernel)
set_option maxRecDepth 20000 in
theorem gX0_giveRest_X6_add : GoodIn wsX0_giveRest (wsV RX0 50 RX6 yX6_add wsX6_add) := goodIn_app (goodIn_of _ (by decide +kernel)) ggX0_giveRest_X6_add
set_option maxRecDepth 20000 in
theorem ggX0_giveRest_X6_put : GoodIn wsX0_giveRest wsX6_put := goodIn_r _ [22, 13, 27] (by decide +kernel) (by decide +kernel)
set_option maxRecDepth 20000 in
theorem gX0_giveRest_X6_put : GoodIn wsX0_giveRest (wsV RX0 34 RX6 yX6_put wsX6_put) := goodIn_app (goodIn_of _ (by decide +kernel)) ggX0_giveRest_X6_put
theorem dX0_giveRest_0 : decode cX0_giveRest 0 = .ok (.iload_n 2, 1) := by decide +kernel
theorem dX0_giveRest_1 : decode cX0_giveRest 1 = .ok (.istore 4, 2) := by decide +kernel
theorem dX0_giveRest_3 : decode cX0_giveRest 3 = .ok (.iconst 0, 1) := by decide +kernel
theorem dX0_giveRest_4 : decode cX0_giveRest 4 = .ok (.istore 5, 2) := by decide +kernel
theorem dX0_giveRest_6 : decode cX0_giveRest 6 = .ok (.iload 5, 2) := by decide +kernel
theorem dX0_giveRest_8 : decode cX0_giveRest 8 = .ok (.iload_n 3, 1) := by decide +kernel
theorem dX0_giveRest_9 : decode cX0_giveRest 9 = .ok (.if_icmp .ge 45, 3) := by decide +kernel
theorem dX0_giveRest_12 : decode cX0_giveRest 12 = .ok (.iload 4, 2) := by decide +kernel
theorem dX0_giveRest_14 : decode cX0_giveRest 14 = .ok (.iload_n 1, 1) := by decide +kernel
theorem dX0_giveRest_15 : decode cX0_giveRest 15 = .ok (.if_icmp .ge 39, 3) := by decide +kernel
theorem dX0_giveRest_18 : decode cX0_giveRest 18 = .ok (.aload_n 0, 1) := by decide +kernel
theorem dX0_giveRest_19 : decode cX0_giveRest 19 = .ok (.iload_n 3, 1) := by decide +kernel
theorem dX0_giveRest_20 : decode cX0_giveRest 20 = .ok (.invokevirtual 47, 3) := by decide +kernel
theorem dX0_giveRest_23 : decode cX0_giveRest 23 = .ok (.istore 6, 2) := by decide +kernel
theorem dX0_giveRest_25 : decode cX0_giveRest 25 = .ok (.aload_n 0, 1) := by decide +kernel
theorem dX0_giveRest_26 : decode cX0_giveRest 26 = .ok (.getfield 20, 3) := by decide +kernel
theorem dX0_giveRest_29 : decode cX0_giveRest 29 = .ok (.iload 6, 2) := by decide +kernel
theorem dX0_giveRest_31 : decode cX0_giveRest 31 = .ok (.iconst 1, 1) := by decide +kernel
theorem dX0_giveRest_32 : decode cX0_giveRest 32 = .ok (.invokevirtual 50, 3) := by decide +kernel
theorem dX0_giveRest_35 : decode cX0_giveRest 35 = .ok (.aload_n 0, 1) := by decide +kernel
theorem dX0_giveRest_36 : decode cX0_giveRest 36 = .ok (.getfield 23, 3) := by decide +kernel
theorem dX0_giveRest_39 : decode cX0_giveRest 39 = .ok (.iload 6, 2) := by decide +kernel
theorem dX0_giveRest_41 : decode cX0_giveRest 41 = .ok (.iconst (-1), 1) := by decide +kernel
theorem dX0_giveRest_42 : decode cX0_giveRest 42 = .ok (.invokevirtual 34, 3) := by decide +kernel
theorem dX0_giveRest_45 : decode cX0_giveRest 45 = .ok (.iinc 4 1, 3) := by decide +kernel
theorem dX0_giveRest_48 : decode cX0_giveRest 48 = .ok (.iinc 5 1, 3) := by decide +kernel
theorem dX0_giveRest_51 : decode cX0_giveRest 51 = .ok (.goto (-45), 3) := by decide +kernel
theorem dX0_giveRest_54 : decode cX0_giveRest 54 = .ok (.iload 4, 2) := by decide +kernel
theorem dX0_giveRest_56 : decode cX0_giveRest 56 = .ok (.ireturn, 1) := by decide +kernel
set_option maxRecDepth 20000 in
theorem ggX0_mostCutOff_X6_at : GoodIn wsX0_mostCutOff wsX6_at := goodIn_r _ [6, 7, 11] (by decide +kernel) (by decide +kernel)
set_option maxRecDepth 20000 in
theorem gX0_mostCutOff_X6_at : GoodIn wsX0_mostCutOff (wsV RX0 26 RX6 yX6_at wsX6_at) := goodIn_app (goodIn_of _ (by decide +kernel)) ggX0_mostCutOff_X6_at
theorem dX0_mostCutOff_0 : decode cX0_mostCutOff 0 = .ok (.iconst 0, 1) := by decide +kernel
theorem dX0_mostCutOff_1 : decode cX0_mostCutOff 1 = .ok (.istore_n 2, 1) := by decide +kernel
theorem dX0_mostCutOff_2 : decode cX0_mostCutOff 2 = .ok (.iconst 1, 1) := by decide +kernel
theorem dX0_mostCutOff_3 : decode cX0_mostCutOff 3 = .ok (.istore_n 3, 1) := by decide +kernel
theorem dX0_mostCutOff_4 : decode cX0_mostCutOff 4 = .ok (.iload_n 3, 1) := by decide +kernel
theorem dX0_mostCutOff_5 : decode cX0_mostCutOff 5 = .ok (.iload_n 1, 1) := by decide +kernel
theorem dX0_mostCutOff_6 : decode cX0_mostCutOff 6 = .ok (.if_icmp .ge 30, 3) := by decide +kernel
theorem dX0_mostCutOff_9 : decode cX0_mostCutOff 9 = .ok (.aload_n 0, 1) := by decide +kernel
theorem dX0_mostCutOff_10 : decode cX0_mostCutOff 10 = .ok (.getfield 23, 3) := by decide +kernel
theorem dX0_mostCutOff_13 : decode cX0_mostCutOff 13 = .ok (.iload_n 3, 1) := by decide +kernel
theorem dX0_mostCutOff_14 : decode cX0_mostCutOff 14 = .ok (.invokevirtual 26, 3) := by decide +kernel
theorem dX0_mostCutOff_17 : decode cX0_mostCutOff 17 = .ok (.aload_n 0, 1) := by decide +kernel
theorem dX0_mostCutOff_18 : decode cX0_mostCutOff 18 = .ok (.getfield 23, 3) := by decide +kernel
theorem dX0_mostCutOff_21 : decode cX0_mostCutOff 21 = .ok (.iload_n 2, 1) := by decide +kernel
theorem dX0_mostCutOff_22 : decode cX0_mostCutOff 22 = .ok (.invokevirtual 26, 3) := by decide +kernel
theorem dX0_mostCutOff_25 : decode cX0_mostCutOff 25 = .ok (.if_icmp .le 5, 3) := by decide +kernel
theorem dX0_mostCutOff_28 : decode cX0_mostCutOff 28 = .ok (.iload_n 3, 1) := by decide +kernel
theorem dX0_mostCutOff_29 : decode cX0_mostCutOff 29 = .ok (.istore_n 2, 1) := by decide +kernel
theorem dX0_mostCutOff_30 : decode cX0_mostCutOff 30 = .ok (.iinc 3 1, 3) := by decide +kernel
theorem dX0_mostCutOff_33 : decode cX0_mostCutOff 33 = .ok (.goto (-29), 3) := by decide +kernel
theorem dX0_mostCutOff_36 : decode cX0_mostCutOff 36 = .ok (.iload_n 2, 1) := by decide +kernel
theorem dX0_mostCutOff_37 : decode cX0_mostCutOff 37 = .ok (.ireturn, 1) := by decide +kernel
set_option maxRecDepth 20000 in
theorem ggX1_init_X6_init : GoodIn wsX1_init wsX6_init := goodIn_r _ [13, 14, 2, 3, 15, 16, 17, 18, 19, 20, 21, 22, 23, 24, 25] (by decide +kernel) (by decide +kernel)
set_option maxRecDepth 20000 in
theorem gX1_init_X6_init : GoodIn wsX1_init (wsX6_init) := ggX1_init_X6_init
theorem dX1_init_0 : decode cX1_init 0 = .ok (.aload_n 0, 1) := by decide +kernel
theorem dX1_init_1 : decode cX1_init 1 = .ok (.invokespecial 3, 3) := by decide +kernel
theorem dX1_init_4 : decode cX1_init 4 = .ok (.aload_n 0, 1) := by decide +kernel
theorem dX1_init_5 : decode cX1_init 5 = .ok (.new 9, 3) := by decide +kernel
theorem dX1_init_8 : decode cX1_init 8 = .ok (.dup, 1) := by decide +kernel
theorem dX1_init_9 : decode cX1_init 9 = .ok (.bipush 40, 2) := by decide +kernel
theorem dX1_init_11 : decode cX1_init 11 = .ok (.iconst 0, 1) := by decide +kernel
theorem dX1_init_12 : decode cX1_init 12 = .ok (.invokespecial 11, 3) := by decide +kernel
theorem dX1_init_15 : decode cX1_init 15 = .ok (.putfield 14, 3) := by decide +kernel
theorem dX1_init_18 : decode cX1_init 18 = .ok (.aload_n 0, 1) := by decide +kernel
theorem dX1_init_19 : decode cX1_init 19 = .ok (.new 9, 3) := by decide +kernel
theorem dX1_init_22 : decode cX1_init 22 = .ok (.dup, 1) := by decide +kernel
theorem dX1_init_23 : decode cX1_init 23 = .ok (.bipush 40, 2) := by decide +kernel
theorem dX1_init_25 : decode cX1_init 25 = .ok (.iconst 0, 1) := by decide +kernel
theorem dX1_init_26 : decode cX1_init 26 = .ok (.invokespecial 11, 3) := by decide +kernel
theorem dX1_init_29 : decode cX1_init 29 = .ok (.putfield 20, 3) := by decide +kernel
theorem dX1_init_32 : decode cX1_init 32 = .ok (.aload_n 0, 1) := by decide +kernel
theorem dX1_init_33 : decode cX1_init 33 = .ok (.new 9, 3) := by decide +kernel
theorem dX1_init_36 : decode cX1_init 36 = .ok (.dup, 1) := by decide +kernel
theorem dX1_init_37 : decode cX1_init 37 = .ok (.bipush 40, 2) := by decide +kernel
theorem dX1_init_39 : decode cX1_init 39 = .ok (.iconst 0, 1) := by decide +kernel
theorem dX1_init_40 : decode cX1_init 40 = .ok (.invokespecial 11, 3) := by decide +kernel
theorem dX1_init_43 : decode cX1_init 43 = .ok (.putfield 23, 3) := by decide +kernel
theorem dX1_init_46 : decode cX1_init 46 = .ok (.aload_n 0, 1) := by decide +kernel
theorem dX1_init_47 : decode cX1_init 47 = .ok (.new 9, 3) := by decide +kernel
theorem dX1_init_50 : decode cX1_init 50 = .ok (.dup, 1) := by decide +kernel
theorem dX1_init_51 : decode cX1_init 51 = .ok (.bipush 40, 2) := by decide +kernel
theorem dX1_init_53 : decode cX1_init 53 = .ok (.iconst 0, 1) := by decide +kernel
theorem dX1_init_54 : decode cX1_init 54 = .ok (.invokespecial 11, 3) := by decide +kernel
theorem dX1_init_57 : decode cX1_init 57 = .ok (.putfield 26, 3) := by decide +kernel
theorem dX1_init_60 : decode cX1_init 60 = .ok (.return_, 1) := by decide +kernel
theorem dX1_areFull_0 : decode cX1_areFull 0 = .ok (.aload_n 0, 1) := by decide +kernel
theorem dX1_areFull_1 : decode cX1_areFull 1 = .ok (.getfield 29, 3) := by decide +kernel
theorem dX1_areFull_4 : decode cX1_areFull 4 = .ok (.bipush 40, 2) := by decide +kernel
theorem dX1_areFull_6 : decode cX1_areFull 6 = .ok (.if_icmp .lt 7, 3) := by decide +kernel
theorem dX1_areFull_9 : decode cX1_areFull 9 = .ok (.iconst 1, 1) := by decide +kernel
theorem dX1_areFull_10 : decode cX1_areFull 10 = .ok (.goto 4, 3) := by decide +kernel
theorem dX1_areFull_13 : decode cX1_areFull 13 = .ok (.iconst 0, 1) := by decide +kernel
theorem dX1_areFull_14 : decode cX1_areFull 14 = .ok (.ireturn, 1) := by decide +kernel
set_option maxRecDepth 20000 in
theorem ggX1_enter_X6_at : GoodIn wsX1_enter wsX6_at := goodIn_r _ [10, 11, 27] (by decide +kernel) (by decide +kernel)
set_option maxRecDepth 20000 in
theorem gX1_enter_X6_at : GoodIn wsX1_enter (wsV RX1 33 RX6 yX6_at wsX6_at) := goodIn_app (goodIn_of _ (by decide +kernel)) ggX1_enter_X6_at
set_option maxRecDepth 20000 in
theorem ggX1_enter_X6_squeeze : GoodIn wsX1_enter wsX6_squeeze := goodIn_r _ [15, 16, 7, 8, 9, 10, 11, 17, 18, 19, 20, 27] (by decide +kernel) (by decide +kernel)
set_option maxRecDepth 20000 in
theorem gX1_enter_X6_squeeze : GoodIn wsX1_enter (wsV RX1 37 RX6 yX6_squeeze wsX6_squeeze) := goodIn_app (goodIn_of _ (by decide +kernel)) ggX1_enter_X6_squeeze
set_option maxRecDepth 20000 in
theorem ggX1_enter_X6_put : GoodIn wsX1_enter wsX6_put := goodIn_r _ [20, 11, 27] (by decide +kernel) (by decide +kernel)
set_option maxRecDepth 20000 in
theorem gX1_enter_X6_put : GoodIn wsX1_enter (wsV RX1 41 RX6 yX6_put wsX6_put) := goodIn_app (goodIn_of _ (by decide +kernel)) ggX1_enter_X6_put
theorem dX1_enter_0 : decode cX1_enter 0 = .ok (.aload_n 0, 1) := by decide +kernel
theorem dX1_enter_1 : decode cX1_enter 1 = .ok (.getfield 29, 3) := by decide +kernel
theorem dX1_enter_4 : decode cX1_enter 4 = .ok (.istore 4, 2) := by decide +kernel
theorem dX1_enter_6 : decode cX1_enter 6 = .ok (.iload 4, 2) := by decide +kernel
theorem dX1_enter_8 : decode cX1_enter 8 = .ok (.ifCond .le 24, 3) := by decide +kernel
theorem dX1_enter_11 : decode cX1_enter 11 = .ok (.aload_n 0, 1) := by decide +kernel
theorem dX1_enter_12 : decode cX1_enter 12 = .ok (.getfield 23, 3) := by decide +kernel
theorem dX1_enter_15 : decode cX1_enter 15 = .ok (.iload 4, 2) := by decide +kernel
theorem dX1_enter_17 : decode cX1_enter 17 = .ok (.iconst 1, 1) := by decide +kernel
theorem dX1_enter_18 : decode cX1_enter 18 = .ok (.isub, 1) := by decide +kernel
theorem dX1_enter_19 : decode cX1_enter 19 = .ok (.invokevirtual 33, 3) := by decide +kernel
theorem dX1_enter_22 : decode cX1_enter 22 = .ok (.iload_n 3, 1) := by decide +kernel
theorem dX1_enter_23 : decode cX1_enter 23 = .ok (.if_icmp .ge 9, 3) := by decide +kernel
theorem dX1_enter_26 : decode cX1_enter 26 = .ok (.iinc 4 (-1), 3) := by decide +kernel
theorem dX1_enter_29 : decode cX1_enter 29 = .ok (.goto (-23), 3) := by decide +kernel
theorem dX1_enter_32 : decode cX1_enter 32 = .ok (.aload_n 0, 1) := by decide +kernel
theorem dX1_enter_33 : decode cX1_enter 33 = .ok (.getfield 14, 3) := by decide +kernel
theorem dX1_enter_36 : decode cX1_enter 36 = .ok (.iload 4, 2) := by decide +kernel
theorem dX1_enter_38 : decode cX1_enter 38 = .ok (.aload_n 0, 1) := by decide +kernel
theorem dX1_enter_39 : decode cX1_enter 39 = .ok (.getfield 29, 3) := by decide +kernel
theorem dX1_enter_42 : decode cX1_enter 42 = .ok (.iload_n 1, 1) := by decide +kernel
theorem dX1_enter_43 : decode cX1_enter 43 = .ok (.invokevirtual 37, 3) := by decide +kernel
theorem dX1_enter_46 : decode cX1_enter 46 = .ok (.aload_n 0, 1) := by decide +kernel
theorem dX1_enter_47 : decode cX1_enter 47 = .ok (.getfield 20, 3) := by decide +kernel
theorem dX1_enter_50 : decode cX1_enter 50 = .ok (.iload 4, 2) := by decide +kernel
theorem dX1_enter_52 : decode cX1_enter 52 = .ok (.aload_n 0, 1) := by decide +kernel
theorem dX1_enter_53 : decode cX1_enter 53 = .ok (.getfield 29, 3) := by decide +kernel
theorem dX1_enter_56 : decode cX1_enter 56 = .ok (.iload_n 2, 1) := by decide +kernel
theorem dX1_enter_57 : decode cX1_enter 57 = .ok (.invokevirtual 37, 3) := by decide +kernel
theorem dX1_enter_60 : decode cX1_enter 60 = .ok (.aload_n 0, 1) := by decide +kernel
theorem dX1_enter_61 : decode cX1_enter 61 = .ok (.getfield 23, 3) := by decide +kernel
theorem dX1_enter_64 : decode cX1_enter 64 = .ok (.iload 4, 2) := by decide +kernel
theorem dX1_enter_66 : decode cX1_enter 66 = .ok (.aload_n 0, 1) := by decide +kernel
theorem dX1_enter_67 : decode cX1_enter 67 = .ok (.getfield 29, 3) := by decide +kernel
theorem dX1_enter_70 : decode cX1_enter 70 = .ok (.iload_n 3, 1) := by decide +kernel
theorem dX1_enter_71 : decode cX1_enter 71 = .ok (.invokevirtual 37, 3) := by decide +kernel
theorem dX1_enter_74 : decode cX1_enter 74 = .ok (.aload_n 0, 1) := by decide +kernel
theorem dX1_enter_75 : decode cX1_enter 75 = .ok (.getfield 26, 3) := by decide +kernel
theorem dX1_enter_78 : decode cX1_enter 78 = .ok (.aload_n 0, 1) := by decide +kernel
theorem dX1_enter_79 : decode cX1_enter 79 = .ok (.getfield 29, 3) := by decide +kernel
theorem dX1_enter_82 : decode cX1_enter 82 = .ok (.iconst 0, 1) := by decide +kernel
theorem dX1_enter_83 : decode cX1_enter 83 = .ok (.invokevirtual 41, 3) := by decide +kernel
theorem dX1_enter_86 : decode cX1_enter 86 = .ok (.aload_n 0, 1) := by decide +kernel
theorem dX1_enter_87 : decode cX1_enter 87 = .ok (.dup, 1) := by decide +kernel
theorem dX1_enter_88 : decode cX1_enter 88 = .ok (.getfield 29, 3) := by decide +kernel
theorem dX1_enter_91 : decode cX1_enter 91 = .ok (.iconst 1, 1) := by decide +kernel
theorem dX1_enter_92 : decode cX1_enter 92 = .ok (.iadd, 1) := by decide +kernel
theorem dX1_enter_93 : decode cX1_enter 93 = .ok (.putfield 29, 3) := by decide +kernel
theorem dX1_enter_96 : decode cX1_enter 96 = .ok (.aload_n 0, 1) := by decide +kernel
theorem dX1_enter_97 : decode cX1_enter 97 = .ok (.getfield 29, 3) := by decide +kernel
theorem dX1_enter_100 : decode cX1_enter 100 = .ok (.ireturn, 1) := by decide +kernel
set_option maxRecDepth 20000 in
theorem ggX1_grant_X6_put : GoodIn wsX1_grant wsX6_put := goodIn_r _ [6, 7, 13] (by decide +kernel) (by decide +kernel)
set_option maxRecDepth 20000 in
theorem gX1_grant_X6_put : GoodIn wsX1_grant (wsV RX1 41 RX6 yX6_put wsX6_put) := goodIn_app (goodIn_of _ (by decide +kernel)) ggX1_grant_X6_put
theorem dX1_grant_0 : decode cX1_grant 0 = .ok (.aload_n 0, 1) := by decide +kernel
theorem dX1_grant_1 : decode cX1_grant 1 = .ok (.getfield 26, 3) := by decide +kernel
theorem dX1_grant_4 : decode cX1_grant 4 = .ok (.iload_n 1, 1) := by decide +kernel
theorem dX1_grant_5 : decode cX1_grant 5 = .ok (.iload_n 2, 1) := by decide +kernel
theorem dX1_grant_6 : decode cX1_grant 6 = .ok (.invokevirtual 41, 3) := by decide +kernel
theorem dX1_grant_9 : decode cX1_grant 9 = .ok (.return_, 1) := by decide +kernel
theorem dX1_forget_0 : decode cX1_forget 0 = .ok (.aload_n 0, 1) := by decide +kernel
theorem dX1_forget_1 : decode cX1_forget 1 = .ok (.iconst 0, 1) := by decide +kernel
theorem dX1_forget_2 : decode cX1_forget 2 = .ok (.putfield 29, 3) := by decide +kernel
theorem dX1_forget_5 : decode cX1_forget 5 = .ok (.return_, 1) := by decide +kernel
theorem dX1_many_0 : decode cX1_many 0 = .ok (.aload_n 0, 1) := by decide +kernel
theorem dX1_many_1 : decode cX1_many 1 = .ok (.getfield 29, 3) := by decide +kernel
theorem dX1_many_4 : decode cX1_many 4 = .ok (.ireturn, 1) := by decide +kernel
set_option maxRecDepth 20000 in
theorem ggX1_who_X6_at : GoodIn wsX1_who wsX6_at := goodIn_r _ [6, 7, 13] (by decide +kernel) (by decide +kernel)
set_option maxRecDepth 20000 in
theorem gX1_who_X6_at : GoodIn wsX1_who (wsV RX1 33 RX6 yX6_at wsX6_at) := goodIn_app (goodIn_of _ (by decide +kernel)) ggX1_who_X6_at
theorem dX1_who_0 : decode cX1_who 0 = .ok (.aload_n 0, 1) := by decide +kernel
theorem dX1_who_1 : decode cX1_who 1 = .ok (.getfield 14, 3) := by decide +kernel
theorem dX1_who_4 : decode cX1_who 4 = .ok (.iload_n 1, 1) := by decide +kernel
theorem dX1_who_5 : decode cX1_who 5 = .ok (.invokevirtual 33, 3) := by decide +kernel
theorem dX1_who_8 : decode cX1_who 8 = .ok (.ireturn, 1) := by decide +kernel
set_option maxRecDepth 20000 in
theorem ggX1_wanted_X6_at : GoodIn wsX1_wanted wsX6_at := goodIn_r _ [6, 7, 13] (by decide +kernel) (by decide +kernel)
set_option maxRecDepth 20000 in
theorem gX1_wanted_X6_at : GoodIn wsX1_wanted (wsV RX1 33 RX6 yX6_at wsX6_at) := goodIn_app (goodIn_of _ (by decide +kernel)) ggX1_wanted_X6_at
theorem dX1_wanted_0 : decode cX1_wanted 0 = .ok (.aload_n 0, 1) := by decide +kernel
theorem dX1_wanted_1 : decode cX1_wanted 1 = .ok (.getfield 20, 3) := by decide +kernel
theorem dX1_wanted_4 : decode cX1_wanted 4 = .ok (.iload_n 1, 1) := by decide +kernel
theorem dX1_wanted_5 : decode cX1_wanted 5 = .ok (.invokevirtual 33, 3) := by decide +kernel
theorem dX1_wanted_8 : decode cX1_wanted 8 = .ok (.ireturn, 1) := by decide +kernel
set_option maxRecDepth 20000 in
theorem ggX1_price_X6_at : GoodIn wsX1_price wsX6_at := goodIn_r _ [6, 7, 13] (by decide +kernel) (by decide +kernel)
set_option maxRecDepth 20000 in
theorem gX1_price_X6_at : GoodIn wsX1_price (wsV RX1 33 RX6 yX6_at wsX6_at) := goodIn_app (goodIn_of _ (by decide +kernel)) ggX1_price_X6_at
theorem dX1_price_0 : decode cX1_price 0 = .ok (.aload_n 0, 1) := by decide +kernel
theorem dX1_price_1 : decode cX1_price 1 = .ok (.getfield 23, 3) := by decide +kernel
theorem dX1_price_4 : decode cX1_price 4 = .ok (.iload_n 1, 1) := by decide +kernel
theorem dX1_price_5 : decode cX1_price 5 = .ok (.invokevirtual 33, 3) := by decide +kernel
theorem dX1_price_8 : decode cX1_price 8 = .ok (.ireturn, 1) := by decide +kernel
set_option maxRecDepth 20000 in
theorem ggX1_got_X6_at : GoodIn wsX1_got wsX6_at := goodIn_r _ [6, 7, 13] (by decide +kernel) (by decide +kernel)
set_option maxRecDepth 20000 in
theorem gX1_got_X6_at : GoodIn wsX1_got (wsV RX1 33 RX6 yX6_at wsX6_at) := goodIn_app (goodIn_of _ (by decide +kernel)) ggX1_got_X6_at
theorem dX1_got_0 : decode cX1_got 0 = .ok (.aload_n 0, 1) := by decide +kernel
theorem dX1_got_1 : decode cX1_got 1 = .ok (.getfield 26, 3) := by decide +kernel
theorem dX1_got_4 : decode cX1_got 4 = .ok (.iload_n 1, 1) := by decide +kernel
theorem dX1_got_5 : decode cX1_got 5 = .ok (.invokevirtual 33, 3) := by decide +kernel
theorem dX1_got_8 : decode cX1_got 8 = .ok (.ireturn, 1) := by decide +kernel
set_option maxRecDepth 20000 in
theorem ggX2_init_X6_init : GoodIn wsX2_init wsX6_init := goodIn_r _ [13, 14, 2, 3, 15, 16, 17, 18, 19, 20, 21, 22, 23, 24, 25] (by decide +kernel) (by decide +kernel)
set_option maxRecDepth 20000 in
theorem gX2_init_X6_init : GoodIn wsX2_init (wsX6_init) := ggX2_init_X6_init
theorem dX2_init_0 : decode cX2_init 0 = .ok (.aload_n 0, 1) := by decide +kernel
theorem dX2_init_1 : decode cX2_init 1 = .ok (.invokespecial 3, 3) := by decide +kernel
theorem dX2_init_4 : decode cX2_init 4 = .ok (.aload_n 0, 1) := by decide +kernel
theorem dX2_init_5 : decode cX2_init 5 = .ok (.new 9, 3) := by decide +kernel
theorem dX2_init_8 : decode cX2_init 8 = .ok (.dup, 1) := by decide +kernel
theorem dX2_init_9 : decode cX2_init 9 = .ok (.bipush 40, 2) := by decide +kernel
theorem dX2_init_11 : decode cX2_init 11 = .ok (.iconst 0, 1) := by decide +kernel
theorem dX2_init_12 : decode cX2_init 12 = .ok (.invokespecial 11, 3) := by decide +kernel
theorem dX2_init_15 : decode cX2_init 15 = .ok (.putfield 14, 3) := by decide +kernel
theorem dX2_init_18 : decode cX2_init 18 = .ok (.aload_n 0, 1) := by decide +kernel
theorem dX2_init_19 : decode cX2_init 19 = .ok (.new 9, 3) := by decide +kernel
theorem dX2_init_22 : decode cX2_init 22 = .ok (.dup, 1) := by decide +kernel
theorem dX2_init_23 : decode cX2_init 23 = .ok (.bipush 40, 2) := by decide +kernel
theorem dX2_init_25 : decode cX2_init 25 = .ok (.iconst 0, 1) := by decide +kernel
theorem dX2_init_26 : decode cX2_init 26 = .ok (.invokespecial 11, 3) := by decide +kernel
theorem dX2_init_29 : decode cX2_init 29 = .ok (.putfield 20, 3) := by decide +kernel
theorem dX2_init_32 : decode cX2_init 32 = .ok (.aload_n 0, 1) := by decide +kernel
theorem dX2_init_33 : decode cX2_init 33 = .ok (.new 9, 3) := by decide +kernel
theorem dX2_init_36 : decode cX2_init 36 = .ok (.dup, 1) := by decide +kernel
theorem dX2_init_37 : decode cX2_init 37 = .ok (.bipush 40, 2) := by decide +kernel
theorem dX2_init_39 : decode cX2_init 39 = .ok (.iconst 0, 1) := by decide +kernel
theorem dX2_init_40 : decode cX2_init 40 = .ok (.invokespecial 11, 3) := by decide +kernel
theorem dX2_init_43 : decode cX2_init 43 = .ok (.putfield 23, 3) := by decide +kernel
theorem dX2_init_46 : decode cX2_init 46 = .ok (.aload_n 0, 1) := by decide +kernel
theorem dX2_init_47 : decode cX2_init 47 = .ok (.new 9, 3) := by decide +kernel
theorem dX2_init_50 : decode cX2_init 50 = .ok (.dup, 1) := by decide +kernel
theorem dX2_init_51 : decode cX2_init 51 = .ok (.bipush 10, 2) := by decide +kernel
theorem dX2_init_53 : decode cX2_init 53 = .ok (.iconst 0, 1) := by decide +kernel
theorem dX2_init_54 : decode cX2_init 54 = .ok (.invokespecial 11, 3) := by decide +kernel
theorem dX2_init_57 : decode cX2_init 57 = .ok (.putfield 26, 3) := by decide +kernel
theorem dX2_init_60 : decode cX2_init 60 = .ok (.return_, 1) := by decide +kernel
set_option maxRecDepth 20000 in
theorem ggX2_offer_X6_at : GoodIn wsX2_offer wsX6_at := goodIn_r _ [11, 12, 37] (by decide +kernel) (by decide +kernel)
set_option maxRecDepth 20000 in
theorem gX2_offer_X6_at : GoodIn wsX2_offer (wsV RX2 29 RX6 yX6_at wsX6_at) := goodIn_app (goodIn_of _ (by decide +kernel)) ggX2_offer_X6_at
set_option maxRecDepth 20000 in
theorem ggX2_offer_X2_comesBehind : GoodIn wsX2_offer wsX2_comesBehind := goodIn_r _ [17, 5, 3, 7, 8, 9, 10, 11, 12, 31, 32, 33, 34, 35, 36, 37] (by decide +kernel) (by decide +kernel)
set_option maxRecDepth 20000 in
theorem gX2_offer_X2_comesBehind : GoodIn wsX2_offer (wsV RX2 37 RX2 yX2_comesBehind wsX2_comesBehind) := goodIn_app (goodIn_of _ (by decide +kernel)) ggX2_offer_X2_comesBehind
set_option maxRecDepth 20000 in
theorem ggX2_offer_X6_squeeze : GoodIn wsX2_offer wsX6_squeeze := goodIn_r _ [21, 22, 8, 9, 10, 11, 12, 23, 24, 25, 26, 37] (by decide +kernel) (by decide +kernel)
set_option maxRecDepth 20000 in
theorem gX2_offer_X6_squeeze : GoodIn wsX2_offer (wsV RX2 41 RX6 yX6_squeeze wsX6_squeeze) := goodIn_app (goodIn_of _ (by decide +kernel)) ggX2_offer_X6_squeeze
set_option maxRecDepth 20000 in
theorem ggX2_offer_X6_add : GoodIn wsX2_offer wsX6_add := goodIn_r _ [30, 22, 8, 9, 10, 11, 12, 23, 24, 25, 26, 37] (by decide +kernel) (by decide +kernel)
set_option maxRecDepth 20000 in
theorem gX2_offer_X6_add : GoodIn wsX2_offer (wsV RX2 48 RX6 yX6_add wsX6_add) := goodIn_app (goodIn_of _ (by decide +kernel)) ggX2_offer_X6_add
theorem dX2_offer_0 : decode cX2_offer 0 = .ok (.aload_n 0, 1) := by decide +kernel
theorem dX2_offer_1 : decode cX2_offer 1 = .ok (.getfield 26, 3) := by decide +kernel
theorem dX2_offer_4 : decode cX2_offer 4 = .ok (.iload_n 1, 1) := by decide +kernel
theorem dX2_offer_5 : decode cX2_offer 5 = .ok (.invokevirtual 29, 3) := by decide +kernel
theorem dX2_offer_8 : decode cX2_offer 8 = .ok (.iconst 4, 1) := by decide +kernel
theorem dX2_offer_9 : decode cX2_offer 9 = .ok (.if_icmp .lt 5, 3) := by decide +kernel
theorem dX2_offer_12 : decode cX2_offer 12 = .ok (.iconst (-1), 1) := by decide +kernel
theorem dX2_offer_13 : decode cX2_offer 13 = .ok (.ireturn, 1) := by decide +kernel
theorem dX2_offer_14 : decode cX2_offer 14 = .ok (.aload_n 0, 1) := by decide +kernel
theorem dX2_offer_15 : decode cX2_offer 15 = .ok (.getfield 33, 3) := by decide +kernel
theorem dX2_offer_18 : decode cX2_offer 18 = .ok (.istore 4, 2) := by decide +kernel
theorem dX2_offer_20 : decode cX2_offer 20 = .ok (.iload 4, 2) := by decide +kernel
theorem dX2_offer_22 : decode cX2_offer 22 = .ok (.ifCond .le 22, 3) := by decide +kernel
theorem dX2_offer_25 : decode cX2_offer 25 = .ok (.aload_n 0, 1) := by decide +kernel
theorem dX2_offer_26 : decode cX2_offer 26 = .ok (.iload 4, 2) := by decide +kernel
theorem dX2_offer_28 : decode cX2_offer 28 = .ok (.iconst 1, 1) := by decide +kernel
theorem dX2_offer_29 : decode cX2_offer 29 = .ok (.isub, 1) := by decide +kernel
theorem dX2_offer_30 : decode cX2_offer 30 = .ok (.iload_n 1, 1) := by decide +kernel
theorem dX2_offer_31 : decode cX2_offer 31 = .ok (.iload_n 3, 1) := by decide +kernel
theorem dX2_offer_32 : decode cX2_offer 32 = .ok (.invokevirtual 37, 3) := by decide +kernel
theorem dX2_offer_35 : decode cX2_offer 35 = .ok (.ifCond .eq 9, 3) := by decide +kernel
theorem dX2_offer_38 : decode cX2_offer 38 = .ok (.iinc 4 (-1), 3) := by decide +kernel
theorem dX2_offer_41 : decode cX2_offer 41 = .ok (.goto (-21), 3) := by decide +kernel
theorem dX2_offer_44 : decode cX2_offer 44 = .ok (.aload_n 0, 1) := by decide +kernel
theorem dX2_offer_45 : decode cX2_offer 45 = .ok (.getfield 14, 3) := by decide +kernel
theorem dX2_offer_48 : decode cX2_offer 48 = .ok (.iload 4, 2) := by decide +kernel
theorem dX2_offer_50 : decode cX2_offer 50 = .ok (.aload_n 0, 1) := by decide +kernel
theorem dX2_offer_51 : decode cX2_offer 51 = .ok (.getfield 33, 3) := by decide +kernel
theorem dX2_offer_54 : decode cX2_offer 54 = .ok (.iload_n 1, 1) := by decide +kernel
theorem dX2_offer_55 : decode cX2_offer 55 = .ok (.invokevirtual 41, 3) := by decide +kernel
theorem dX2_offer_58 : decode cX2_offer 58 = .ok (.aload_n 0, 1) := by decide +kernel
theorem dX2_offer_59 : decode cX2_offer 59 = .ok (.getfield 20, 3) := by decide +kernel
theorem dX2_offer_62 : decode cX2_offer 62 = .ok (.iload 4, 2) := by decide +kernel
theorem dX2_offer_64 : decode cX2_offer 64 = .ok (.aload_n 0, 1) := by decide +kernel
theorem dX2_offer_65 : decode cX2_offer 65 = .ok (.getfield 33, 3) := by decide +kernel
theorem dX2_offer_68 : decode cX2_offer 68 = .ok (.iload_n 2, 1) := by decide +kernel
theorem dX2_offer_69 : decode cX2_offer 69 = .ok (.invokevirtual 41, 3) := by decide +kernel
theorem dX2_offer_72 : decode cX2_offer 72 = .ok (.aload_n 0, 1) := by decide +kernel
theorem dX2_offer_73 : decode cX2_offer 73 = .ok (.getfield 23, 3) := by decide +kernel
theorem dX2_offer_76 : decode cX2_offer 76 = .ok (.iload 4, 2) := by decide +kernel
theorem dX2_offer_78 : decode cX2_offer 78 = .ok (.aload_n 0, 1) := by decide +kernel
theorem dX2_offer_79 : decode cX2_offer 79 = .ok (.getfield 33, 3) := by decide +kernel
theorem dX2_offer_82 : decode cX2_offer 82 = .ok (.iload_n 3, 1) := by decide +kernel
theorem dX2_offer_83 : decode cX2_offer 83 = .ok (.invokevirtual 41, 3) := by decide +kernel
theorem dX2_offer_86 : decode cX2_offer 86 = .ok (.aload_n 0, 1) := by decide +kernel
theorem dX2_offer_87 : decode cX2_offer 87 = .ok (.dup, 1) := by decide +kernel
theorem dX2_offer_88 : decode cX2_offer 88 = .ok (.getfield 33, 3) := by decide +kernel
theorem dX2_offer_91 : decode cX2_offer 91 = .ok (.iconst 1, 1) := by decide +kernel
theorem dX2_offer_92 : decode cX2_offer 92 = .ok (.iadd, 1) := by decide +kernel
theorem dX2_offer_93 : decode cX2_offer 93 = .ok (.putfield 33, 3) := by decide +kernel
theorem dX2_offer_96 : decode cX2_offer 96 = .ok (.aload_n 0, 1) := by decide +kernel
theorem dX2_offer_97 : decode cX2_offer 97 = .ok (.dup, 1) := by decide +kernel
theorem dX2_offer_98 : decode cX2_offer 98 = .ok (.getfield 45, 3) := by decide +kernel
theorem dX2_offer_101 : decode cX2_offer 101 = .ok (.iload_n 2, 1) := by decide +kernel
theorem dX2_offer_102 : decode cX2_offer 102 = .ok (.iadd, 1) := by decide +kernel
theorem dX2_offer_103 : decode cX2_offer 103 = .ok (.putfield 45, 3) := by decide +kernel
theorem dX2_offer_106 : decode cX2_offer 106 = .ok (.aload_n 0, 1) := by decide +kernel
theorem dX2_offer_107 : decode cX2_offer 107 = .ok (.getfield 26, 3) := by decide +kernel
theorem dX2_offer_110 : decode cX2_offer 110 = .ok (.iload_n 1, 1) := by decide +kernel
theorem dX2_offer_111 : decode cX2_offer 111 = .ok (.iconst 1, 1) := by decide +kernel
theorem dX2_offer_112 : decode cX2_offer 112 = .ok (.invokevirtual 48, 3) := by decide +kernel
theorem dX2_offer_115 : decode cX2_offer 115 = .ok (.aload_n 0, 1) := by decide +kernel
theorem dX2_offer_116 : decode cX2_offer 116 = .ok (.getfield 26, 3) := by decide +kernel
theorem dX2_offer_119 : decode cX2_offer 119 = .ok (.iload_n 1, 1) := by decide +kernel
theorem dX2_offer_120 : decode cX2_offer 120 = .ok (.invokevirtual 29, 3) := by decide +kernel
theorem dX2_offer_123 : decode cX2_offer 123 = .ok (.ireturn, 1) := by decide +kernel
set_option maxRecDepth 20000 in
theorem ggX2_comesBehind_X6_at : GoodIn wsX2_comesBehind wsX6_at := goodIn_r _ [7, 8, 15] (by decide +kernel) (by decide +kernel)
set_option maxRecDepth 20000 in
theorem gX2_comesBehind_X6_at : GoodIn wsX2_comesBehind (wsV RX2 29 RX6 yX6_at wsX6_at) := goodIn_app (goodIn_of _ (by decide +kernel)) ggX2_comesBehind_X6_at
theorem dX2_comesBehind_0 : decode cX2_comesBehind 0 = .ok (.aload_n 0, 1) := by decide +kernel
theorem dX2_comesBehind_1 : decode cX2_comesBehind 1 = .ok (.getfield 23, 3) := by decide +kernel
theorem dX2_comesBehind_4 : decode cX2_comesBehind 4 = .ok (.iload_n 1, 1) := by decide +kernel
theorem dX2_comesBehind_5 : decode cX2_comesBehind 5 = .ok (.invokevirtual 29, 3) := by decide +kernel
theorem dX2_comesBehind_8 : decode cX2_comesBehind 8 = .ok (.iload_n 3, 1) := by decide +kernel
theorem dX2_comesBehind_9 : decode cX2_comesBehind 9 = .ok (.if_icmp .gt 27, 3) := by decide +kernel
theorem dX2_comesBehind_12 : decode cX2_comesBehind 12 = .ok (.aload_n 0, 1) := by decide +kernel
theorem dX2_comesBehind_13 : decode cX2_comesBehind 13 = .ok (.getfield 23, 3) := by decide +kernel
theorem dX2_comesBehind_16 : decode cX2_comesBehind 16 = .ok (.iload_n 1, 1) := by decide +kernel
theorem dX2_comesBehind_17 : decode cX2_comesBehind 17 = .ok (.invokevirtual 29, 3) := by decide +kernel
theorem dX2_comesBehind_20 : decode cX2_comesBehind 20 = .ok (.iload_n 3, 1) := by decide +kernel
theorem dX2_comesBehind_21 : decode cX2_comesBehind 21 = .ok (.if_icmp .ne 19, 3) := by decide +kernel
theorem dX2_comesBehind_24 : decode cX2_comesBehind 24 = .ok (.aload_n 0, 1) := by decide +kernel
theorem dX2_comesBehind_25 : decode cX2_comesBehind 25 = .ok (.getfield 14, 3) := by decide +kernel
theorem dX2_comesBehind_28 : decode cX2_comesBehind 28 = .ok (.iload_n 1, 1) := by decide +kernel
theorem dX2_comesBehind_29 : decode cX2_comesBehind 29 = .ok (.invokevirtual 29, 3) := by decide +kernel
theorem dX2_comesBehind_32 : decode cX2_comesBehind 32 = .ok (.iload_n 2, 1) := by decide +kernel
theorem dX2_comesBehind_33 : decode cX2_comesBehind 33 = .ok (.if_icmp .le 7, 3) := by decide +kernel
theorem dX2_comesBehind_36 : decode cX2_comesBehind 36 = .ok (.iconst 1, 1) := by decide +kernel
theorem dX2_comesBehind_37 : decode cX2_comesBehind 37 = .ok (.goto 4, 3) := by decide +kernel
theorem dX2_comesBehind_40 : decode cX2_comesBehind 40 = .ok (.iconst 0, 1) := by decide +kernel
theorem dX2_comesBehind_41 : decode cX2_comesBehind 41 = .ok (.ireturn, 1) := by decide +kernel
theorem dX2_canBe_0 : decode cX2_canBe 0 = .ok (.iload_n 1, 1) := by decide +kernel
theorem dX2_canBe_1 : decode cX2_canBe 1 = .ok (.ifCond .lt 15, 3) := by decide +kernel
theorem dX2_canBe_4 : decode cX2_canBe 4 = .ok (.iload_n 1, 1) := by decide +kernel
theorem dX2_canBe_5 : decode cX2_canBe 5 = .ok (.aload_n 0, 1) := by decide +kernel
theorem dX2_canBe_6 : decode cX2_canBe 6 = .ok (.getfield 45, 3) := by decide +kernel
theorem dX2_canBe_9 : decode cX2_canBe 9 = .ok (.if_icmp .gt 7, 3) := by decide +kernel
theorem dX2_canBe_12 : decode cX2_canBe 12 = .ok (.iconst 1, 1) := by decide +kernel
theorem dX2_canBe_13 : decode cX2_canBe 13 = .ok (.goto 4, 3) := by decide +kernel
theorem dX2_canBe_16 : decode cX2_canBe 16 = .ok (.iconst 0, 1) := by decide +kernel
theorem dX2_canBe_17 : decode cX2_canBe 17 = .ok (.ireturn, 1) := by decide +kernel
set_option maxRecDepth 20000 in
theorem ggX2_costOf_X6_at : GoodIn wsX2_costOf wsX6_at := goodIn_r _ [12, 13, 20] (by decide +kernel) (by decide +kernel)
set_option maxRecDepth 20000 in
theorem gX2_costOf_X6_at : GoodIn wsX2_costOf (wsV RX2 29 RX6 yX6_at wsX6_at) := goodIn_app (goodIn_of _ (by decide +kernel)) ggX2_costOf_X6_at
theorem dX2_costOf_0 : decode cX2_costOf 0 = .ok (.iload_n 1, 1) := by decide +kernel
theorem dX2_costOf_1 : decode cX2_costOf 1 = .ok (.istore_n 2, 1) := by decide +kernel
theorem dX2_costOf_2 : decode cX2_costOf 2 = .ok (.iconst 0, 1) := by decide +kernel
theorem dX2_costOf_3 : decode cX2_costOf 3 = .ok (.istore_n 3, 1) := by decide +kernel
theorem dX2_costOf_4 : decode cX2_costOf 4 = .ok (.iconst 0, 1) := by decide +kernel
theorem dX2_costOf_5 : decode cX2_costOf 5 = .ok (.istore 4, 2) := by decide +kernel
theorem dX2_costOf_7 : decode cX2_costOf 7 = .ok (.iload 4, 2) := by decide +kernel
theorem dX2_costOf_9 : decode cX2_costOf 9 = .ok (.aload_n 0, 1) := by decide +kernel
theorem dX2_costOf_10 : decode cX2_costOf 10 = .ok (.getfield 33, 3) := by decide +kernel
theorem dX2_costOf_13 : decode cX2_costOf 13 = .ok (.if_icmp .ge 44, 3) := by decide +kernel
theorem dX2_costOf_16 : decode cX2_costOf 16 = .ok (.iload_n 2, 1) := by decide +kernel
theorem dX2_costOf_17 : decode cX2_costOf 17 = .ok (.aload_n 0, 1) := by decide +kernel
theorem dX2_costOf_18 : decode cX2_costOf 18 = .ok (.getfield 20, 3) := by decide +kernel
theorem dX2_costOf_21 : decode cX2_costOf 21 = .ok (.iload 4, 2) := by decide +kernel
theorem dX2_costOf_23 : decode cX2_costOf 23 = .ok (.invokevirtual 29, 3) := by decide +kernel
theorem dX2_costOf_26 : decode cX2_costOf 26 = .ok (.invokestatic 51, 3) := by decide +kernel
theorem dX2_costOf_29 : decode cX2_costOf 29 = .ok (.istore 5, 2) := by decide +kernel
theorem dX2_costOf_31 : decode cX2_costOf 31 = .ok (.iload_n 3, 1) := by decide +kernel
theorem dX2_costOf_32 : decode cX2_costOf 32 = .ok (.iload 5, 2) := by decide +kernel
theorem dX2_costOf_34 : decode cX2_costOf 34 = .ok (.aload_n 0, 1) := by decide +kernel
theorem dX2_costOf_35 : decode cX2_costOf 35 = .ok (.getfield 23, 3) := by decide +kernel
theorem dX2_costOf_38 : decode cX2_costOf 38 = .ok (.iload 4, 2) := by decide +kernel
theorem dX2_costOf_40 : decode cX2_costOf 40 = .ok (.invokevirtual 29, 3) := by decide +kernel
theorem dX2_costOf_43 : decode cX2_costOf 43 = .ok (.imul, 1) := by decide +kernel
theorem dX2_costOf_44 : decode cX2_costOf 44 = .ok (.iadd, 1) := by decide +kernel
theorem dX2_costOf_45 : decode cX2_costOf 45 = .ok (.istore_n 3, 1) := by decide +kernel
theorem dX2_costOf_46 : decode cX2_costOf 46 = .ok (.iload_n 2, 1) := by decide +kernel
theorem dX2_costOf_47 : decode cX2_costOf 47 = .ok (.iload 5, 2) := by decide +kernel
theorem dX2_costOf_49 : decode cX2_costOf 49 = .ok (.isub, 1) := by decide +kernel
theorem dX2_costOf_50 : decode cX2_costOf 50 = .ok (.istore_n 2, 1) := by decide +kernel
theorem dX2_costOf_51 : decode cX2_costOf 51 = .ok (.iinc 4 1, 3) := by decide +kernel
theorem dX2_costOf_54 : decode cX2_costOf 54 = .ok (.goto (-47), 3) := by decide +kernel
theorem dX2_costOf_57 : decode cX2_costOf 57 = .ok (.iload_n 3, 1) := by decide +kernel
theorem dX2_costOf_58 : decode cX2_costOf 58 = .ok (.ireturn, 1) := by decide +kernel
set_option maxRecDepth 20000 in
theorem ggX2_dearestOf_X6_at : GoodIn wsX2_dearestOf wsX6_at := goodIn_r _ [8, 9, 16] (by decide +kernel) (by decide +kernel)
set_option maxRecDepth 20000 in
theorem gX2_dearestOf_X6_at : GoodIn wsX2_dearestOf (wsV RX2 29 RX6 yX6_at wsX6_at) := goodIn_app (goodIn_of _ (by decide +kernel)) ggX2_dearestOf_X6_at
theorem dX2_dearestOf_0 : decode cX2_dearestOf 0 = .ok (.iload_n 1, 1) := by decide +kernel
theorem dX2_dearestOf_1 : decode cX2_dearestOf 1 = .ok (.istore_n 2, 1) := by decide +kernel
theorem dX2_dearestOf_2 : decode cX2_dearestOf 2 = .ok (.iconst 0, 1) := by decide +kernel
theorem dX2_dearestOf_3 : decode cX2_dearestOf 3 = .ok (.istore_n 3, 1) := by decide +kernel
theorem dX2_dearestOf_4 : decode cX2_dearestOf 4 = .ok (.iconst 0, 1) := by decide +kernel
theorem dX2_dearestOf_5 : decode cX2_dearestOf 5 = .ok (.istore 4, 2) := by decide +kernel
theorem dX2_dearestOf_7 : decode cX2_dearestOf 7 = .ok (.iload 4, 2) := by decide +kernel
theorem dX2_dearestOf_9 : decode cX2_dearestOf 9 = .ok (.aload_n 0, 1) := by decide +kernel
theorem dX2_dearestOf_10 : decode cX2_dearestOf 10 = .ok (.getfield 33, 3) := by decide +kernel
theorem dX2_dearestOf_13 : decode cX2_dearestOf 13 = .ok (.if_icmp .ge 35, 3) := by decide +kernel
theorem dX2_dearestOf_16 : decode cX2_dearestOf 16 = .ok (.iload_n 2, 1) := by decide +kernel
theorem dX2_dearestOf_17 : decode cX2_dearestOf 17 = .ok (.ifCond .le 31, 3) := by decide +kernel
theorem dX2_dearestOf_20 : decode cX2_dearestOf 20 = .ok (.aload_n 0, 1) := by decide +kernel
theorem dX2_dearestOf_21 : decode cX2_dearestOf 21 = .ok (.getfield 23, 3) := by decide +kernel
theorem dX2_dearestOf_24 : decode cX2_dearestOf 24 = .ok (.iload 4, 2) := by decide +kernel
theorem dX2_dearestOf_26 : decode cX2_dearestOf 26 = .ok (.invokevirtual 29, 3) := by decide +kernel
theorem dX2_dearestOf_29 : decode cX2_dearestOf 29 = .ok (.istore_n 3, 1) := by decide +kernel
theorem dX2_dearestOf_30 : decode cX2_dearestOf 30 = .ok (.iload_n 2, 1) := by decide +kernel
theorem dX2_dearestOf_31 : decode cX2_dearestOf 31 = .ok (.aload_n 0, 1) := by decide +kernel
theorem dX2_dearestOf_32 : decode cX2_dearestOf 32 = .ok (.getfield 20, 3) := by decide +kernel
theorem dX2_dearestOf_35 : decode cX2_dearestOf 35 = .ok (.iload 4, 2) := by decide +kernel
theorem dX2_dearestOf_37 : decode cX2_dearestOf 37 = .ok (.invokevirtual 29, 3) := by decide +kernel
theorem dX2_dearestOf_40 : decode cX2_dearestOf 40 = .ok (.isub, 1) := by decide +kernel
theorem dX2_dearestOf_41 : decode cX2_dearestOf 41 = .ok (.istore_n 2, 1) := by decide +kernel
theorem dX2_dearestOf_42 : decode cX2_dearestOf 42 = .ok (.iinc 4 1, 3) := by decide +kernel
theorem dX2_dearestOf_45 : decode cX2_dearestOf 45 = .ok (.goto (-38), 3) := by decide +kernel
theorem dX2_dearestOf_48 : decode cX2_dearestOf 48 = .ok (.iload_n 3, 1) := by decide +kernel
theorem dX2_dearestOf_49 : decode cX2_dearestOf 49 = .ok (.ireturn, 1) := by decide +kernel
set_option maxRecDepth 20000 in
theorem ggX2_partOf_X6_at : GoodIn wsX2_partOf wsX6_at := goodIn_r _ [12, 13, 20] (by decide +kernel) (by decide +kernel)
set_option maxRecDepth 20000 in
theorem gX2_partOf_X6_at : GoodIn wsX2_partOf (wsV RX2 29 RX6 yX6_at wsX6_at) := goodIn_app (goodIn_of _ (by decide +kernel)) ggX2_partOf_X6_at
theorem dX2_partOf_0 : decode cX2_partOf 0 = .ok (.iload_n 1, 1) := by decide +kernel
theorem dX2_partOf_1 : decode cX2_partOf 1 = .ok (.istore_n 3, 1) := by decide +kernel
theorem dX2_partOf_2 : decode cX2_partOf 2 = .ok (.iconst 0, 1) := by decide +kernel
theorem dX2_partOf_3 : decode cX2_partOf 3 = .ok (.istore 4, 2) := by decide +kernel
theorem dX2_partOf_5 : decode cX2_partOf 5 = .ok (.iconst 0, 1) := by decide +kernel
theorem dX2_partOf_6 : decode cX2_partOf 6 = .ok (.istore 5, 2) := by decide +kernel
theorem dX2_partOf_8 : decode cX2_partOf 8 = .ok (.iload 5, 2) := by decide +kernel
theorem dX2_partOf_10 : decode cX2_partOf 10 = .ok (.aload_n 0, 1) := by decide +kernel
theorem dX2_partOf_11 : decode cX2_partOf 11 = .ok (.getfield 33, 3) := by decide +kernel
theorem dX2_partOf_14 : decode cX2_partOf 14 = .ok (.if_icmp .ge 53, 3) := by decide +kernel
theorem dX2_partOf_17 : decode cX2_partOf 17 = .ok (.iload_n 3, 1) := by decide +kernel
theorem dX2_partOf_18 : decode cX2_partOf 18 = .ok (.aload_n 0, 1) := by decide +kernel
theorem dX2_partOf_19 : decode cX2_partOf 19 = .ok (.getfield 20, 3) := by decide +kernel
theorem dX2_partOf_22 : decode cX2_partOf 22 = .ok (.iload 5, 2) := by decide +kernel
theorem dX2_partOf_24 : decode cX2_partOf 24 = .ok (.invokevirtual 29, 3) := by decide +kernel
theorem dX2_partOf_27 : decode cX2_partOf 27 = .ok (.invokestatic 51, 3) := by decide +kernel
theorem dX2_partOf_30 : decode cX2_partOf 30 = .ok (.istore 6, 2) := by decide +kernel
theorem dX2_partOf_32 : decode cX2_partOf 32 = .ok (.iload 4, 2) := by decide +kernel
theorem dX2_partOf_34 : decode cX2_partOf 34 = .ok (.aload_n 0, 1) := by decide +kernel
theorem dX2_partOf_35 : decode cX2_partOf 35 = .ok (.getfield 14, 3) := by decide +kernel
theorem dX2_partOf_38 : decode cX2_partOf 38 = .ok (.iload 5, 2) := by decide +kernel
theorem dX2_partOf_40 : decode cX2_partOf 40 = .ok (.invokevirtual 29, 3) := by decide +kernel
theorem dX2_partOf_43 : decode cX2_partOf 43 = .ok (.iload_n 2, 1) := by decide +kernel
theorem dX2_partOf_44 : decode cX2_partOf 44 = .ok (.if_icmp .ne 8, 3) := by decide +kernel
theorem dX2_partOf_47 : decode cX2_partOf 47 = .ok (.iload 6, 2) := by decide +kernel
theorem dX2_partOf_49 : decode cX2_partOf 49 = .ok (.goto 4, 3) := by decide +kernel
theorem dX2_partOf_52 : decode cX2_partOf 52 = .ok (.iconst 0, 1) := by decide +kernel
theorem dX2_partOf_53 : decode cX2_partOf 53 = .ok (.iadd, 1) := by decide +kernel
theorem dX2_partOf_54 : decode cX2_partOf 54 = .ok (.istore 4, 2) := by decide +kernel
theorem dX2_partOf_56 : decode cX2_partOf 56 = .ok (.iload_n 3, 1) := by decide +kernel
theorem dX2_partOf_57 : decode cX2_partOf 57 = .ok (.iload 6, 2) := by decide +kernel
theorem dX2_partOf_59 : decode cX2_partOf 59 = .ok (.isub, 1) := by decide +kernel
theorem dX2_partOf_60 : decode cX2_partOf 60 = .ok (.istore_n 3, 1) := by decide +kernel
theorem dX2_partOf_61 : decode cX2_partOf 61 = .ok (.iinc 5 1, 3) := by decide +kernel
theorem dX2_partOf_64 : decode cX2_partOf 64 = .ok (.goto (-56), 3) := by decide +kernel
theorem dX2_partOf_67 : decode cX2_partOf 67 = .ok (.iload 4, 2) := by decide +kernel
theorem dX2_partOf_69 : decode cX2_partOf 69 = .ok (.ireturn, 1) := by decide +kernel
set_option maxRecDepth 20000 in
theorem ggX3_init_X6_init : GoodIn wsX3_init wsX6_init := goodIn_r _ [13, 14, 2, 3, 15, 16, 17, 18, 19, 20, 21, 22, 23, 24, 25] (by decide +kernel) (by decide +kernel)
set_option maxRecDepth 20000 in
theorem gX3_init_X6_init : GoodIn wsX3_init (wsX6_init) := ggX3_init_X6_init
theorem dX3_init_0 : decode cX3_init 0 = .ok (.aload_n 0, 1) := by decide +kernel
theorem dX3_init_1 : decode cX3_init 1 = .ok (.invokespecial 3, 3) := by decide +kernel
theorem dX3_init_4 : decode cX3_init 4 = .ok (.aload_n 0, 1) := by decide +kernel
theorem dX3_init_5 : decode cX3_init 5 = .ok (.new 9, 3) := by decide +kernel
theorem dX3_init_8 : decode cX3_init 8 = .ok (.dup, 1) := by decide +kernel
theorem dX3_init_9 : decode cX3_init 9 = .ok (.bipush 10, 2) := by decide +kernel
theorem dX3_init_11 : decode cX3_init 11 = .ok (.iconst 0, 1) := by decide +kernel
theorem dX3_init_12 : decode cX3_init 12 = .ok (.invokespecial 11, 3) := by decide +kernel
theorem dX3_init_15 : decode cX3_init 15 = .ok (.putfield 14, 3) := by decide +kernel
theorem dX3_init_18 : decode cX3_init 18 = .ok (.aload_n 0, 1) := by decide +kernel
theorem dX3_init_19 : decode cX3_init 19 = .ok (.new 9, 3) := by decide +kernel
theorem dX3_init_22 : decode cX3_init 22 = .ok (.dup, 1) := by decide +kernel
theorem dX3_init_23 : decode cX3_init 23 = .ok (.bipush 10, 2) := by decide +kernel
theorem dX3_init_25 : decode cX3_init 25 = .ok (.iconst 0, 1) := by decide +kernel
theorem dX3_init_26 : decode cX3_init 26 = .ok (.invokespecial 11, 3) := by decide +kernel
theorem dX3_init_29 : decode cX3_init 29 = .ok (.putfield 20, 3) := by decide +kernel
theorem dX3_init_32 : decode cX3_init 32 = .ok (.aload_n 0, 1) := by decide +kernel
theorem dX3_init_33 : decode cX3_init 33 = .ok (.new 9, 3) := by decide +kernel
theorem dX3_init_36 : decode cX3_init 36 = .ok (.dup, 1) := by decide +kernel
theorem dX3_init_37 : decode cX3_init 37 = .ok (.bipush 10, 2) := by decide +kernel
theorem dX3_init_39 : decode cX3_init 39 = .ok (.iconst 0, 1) := by decide +kernel
theorem dX3_init_40 : decode cX3_init 40 = .ok (.invokespecial 11, 3) := by decide +kernel
theorem dX3_init_43 : decode cX3_init 43 = .ok (.putfield 23, 3) := by decide +kernel
theorem dX3_init_46 : decode cX3_init 46 = .ok (.aload_n 0, 1) := by decide +kernel
theorem dX3_init_47 : decode cX3_init 47 = .ok (.new 9, 3) := by decide +kernel
theorem dX3_init_50 : decode cX3_init 50 = .ok (.dup, 1) := by decide +kernel
theorem dX3_init_51 : decode cX3_init 51 = .ok (.bipush 10, 2) := by decide +kernel
theorem dX3_init_53 : decode cX3_init 53 = .ok (.iconst 0, 1) := by decide +kernel
theorem dX3_init_54 : decode cX3_init 54 = .ok (.invokespecial 11, 3) := by decide +kernel
theorem dX3_init_57 : decode cX3_init 57 = .ok (.putfield 26, 3) := by decide +kernel
theorem dX3_init_60 : decode cX3_init 60 = .ok (.return_, 1) := by decide +kernel
set_option maxRecDepth 20000 in
theorem ggX3_earn_X6_add : GoodIn wsX3_earn wsX6_add := goodIn_r _ [6, 7, 8, 9, 5, 10, 11, 12, 13, 14, 15, 21] (by decide +kernel) (by decide +kernel)
set_option maxRecDepth 20000 in
theorem gX3_earn_X6_add : GoodIn wsX3_earn (wsV RX3 29 RX6 yX6_add wsX6_add) := goodIn_app (goodIn_of _ (by decide +kernel)) ggX3_earn_X6_add
theorem dX3_earn_0 : decode cX3_earn 0 = .ok (.aload_n 0, 1) := by decide +kernel
theorem dX3_earn_1 : decode cX3_earn 1 = .ok (.getfield 14, 3) := by decide +kernel
theorem dX3_earn_4 : decode cX3_earn 4 = .ok (.iload_n 1, 1) := by decide +kernel
theorem dX3_earn_5 : decode cX3_earn 5 = .ok (.iload_n 2, 1) := by decide +kernel
theorem dX3_earn_6 : decode cX3_earn 6 = .ok (.invokevirtual 29, 3) := by decide +kernel
theorem dX3_earn_9 : decode cX3_earn 9 = .ok (.return_, 1) := by decide +kernel
set_option maxRecDepth 20000 in
theorem ggX3_owe_X6_add : GoodIn wsX3_owe wsX6_add := goodIn_r _ [6, 7, 8, 9, 5, 10, 11, 12, 13, 14, 15, 21] (by decide +kernel) (by decide +kernel)
set_option maxRecDepth 20000 in
theorem gX3_owe_X6_add : GoodIn wsX3_owe (wsV RX3 29 RX6 yX6_add wsX6_add) := goodIn_app (goodIn_of _ (by decide +kernel)) ggX3_owe_X6_add
theorem dX3_owe_0 : decode cX3_owe 0 = .ok (.aload_n 0, 1) := by decide +kernel
theorem dX3_owe_1 : decode cX3_owe 1 = .ok (.getfield 20, 3) := by decide +kernel
theorem dX3_owe_4 : decode cX3_owe 4 = .ok (.iload_n 1, 1) := by decide +kernel
theorem dX3_owe_5 : decode cX3_owe 5 = .ok (.iload_n 2, 1) := by decide +kernel
theorem dX3_owe_6 : decode cX3_owe 6 = .ok (.invokevirtual 29, 3) := by decide +kernel
theorem dX3_owe_9 : decode cX3_owe 9 = .ok (.return_, 1) := by decide +kernel
set_option maxRecDepth 20000 in
theorem ggX3_close_X6_add : GoodIn wsX3_close wsX6_add := goodIn_r _ [10, 11, 12, 13, 9, 14, 15, 16, 17, 18, 19, 26] (by decide +kernel) (by decide +kernel)
set_option maxRecDepth 20000 in
theorem gX3_close_X6_add : GoodIn wsX3_close (wsV RX3 29 RX6 yX6_add wsX6_add) := goodIn_app (goodIn_of _ (by decide +kernel)) ggX3_close_X6_add
set_option maxRecDepth 20000 in
theorem ggX3_close_X6_put : GoodIn wsX3_close wsX6_put := goodIn_r _ [19, 15, 26] (by decide +kernel) (by decide +kernel)
set_option maxRecDepth 20000 in
theorem gX3_close_X6_put : GoodIn wsX3_close (wsV RX3 36 RX6 yX6_put wsX6_put) := goodIn_app (goodIn_of _ (by decide +kernel)) ggX3_close_X6_put
theorem dX3_close_0 : decode cX3_close 0 = .ok (.aload_n 0, 1) := by decide +kernel
theorem dX3_close_1 : decode cX3_close 1 = .ok (.getfield 14, 3) := by decide +kernel
theorem dX3_close_4 : decode cX3_close 4 = .ok (.iload_n 1, 1) := by decide +kernel
theorem dX3_close_5 : decode cX3_close 5 = .ok (.iload_n 3, 1) := by decide +kernel
theorem dX3_close_6 : decode cX3_close 6 = .ok (.ineg, 1) := by decide +kernel
theorem dX3_close_7 : decode cX3_close 7 = .ok (.iload 4, 2) := by decide +kernel
theorem dX3_close_9 : decode cX3_close 9 = .ok (.imul, 1) := by decide +kernel
theorem dX3_close_10 : decode cX3_close 10 = .ok (.invokevirtual 29, 3) := by decide +kernel
theorem dX3_close_13 : decode cX3_close 13 = .ok (.aload_n 0, 1) := by decide +kernel
theorem dX3_close_14 : decode cX3_close 14 = .ok (.getfield 26, 3) := by decide +kernel
theorem dX3_close_17 : decode cX3_close 17 = .ok (.iload_n 1, 1) := by decide +kernel
theorem dX3_close_18 : decode cX3_close 18 = .ok (.iload_n 3, 1) := by decide +kernel
theorem dX3_close_19 : decode cX3_close 19 = .ok (.iload 4, 2) := by decide +kernel
theorem dX3_close_21 : decode cX3_close 21 = .ok (.imul, 1) := by decide +kernel
theorem dX3_close_22 : decode cX3_close 22 = .ok (.invokevirtual 29, 3) := by decide +kernel
theorem dX3_close_25 : decode cX3_close 25 = .ok (.aload_n 0, 1) := by decide +kernel
theorem dX3_close_26 : decode cX3_close 26 = .ok (.dup, 1) := by decide +kernel
theorem dX3_close_27 : decode cX3_close 27 = .ok (.getfield 32, 3) := by decide +kernel
theorem dX3_close_30 : decode cX3_close 30 = .ok (.iload_n 3, 1) := by decide +kernel
theorem dX3_close_31 : decode cX3_close 31 = .ok (.iload 4, 2) := by decide +kernel
theorem dX3_close_33 : decode cX3_close 33 = .ok (.imul, 1) := by decide +kernel
theorem dX3_close_34 : decode cX3_close 34 = .ok (.iadd, 1) := by decide +kernel
theorem dX3_close_35 : decode cX3_close 35 = .ok (.putfield 32, 3) := by decide +kernel
theorem dX3_close_38 : decode cX3_close 38 = .ok (.aload_n 0, 1) := by decide +kernel
theorem dX3_close_39 : decode cX3_close 39 = .ok (.getfield 23, 3) := by decide +kernel
theorem dX3_close_42 : decode cX3_close 42 = .ok (.iload_n 1, 1) := by decide +kernel
theorem dX3_close_43 : decode cX3_close 43 = .ok (.iload_n 2, 1) := by decide +kernel
theorem dX3_close_44 : decode cX3_close 44 = .ok (.invokevirtual 29, 3) := by decide +kernel
theorem dX3_close_47 : decode cX3_close 47 = .ok (.aload_n 0, 1) := by decide +kernel
theorem dX3_close_48 : decode cX3_close 48 = .ok (.getfield 20, 3) := by decide +kernel
theorem dX3_close_51 : decode cX3_close 51 = .ok (.iload_n 1, 1) := by decide +kernel
theorem dX3_close_52 : decode cX3_close 52 = .ok (.iload_n 3, 1) := by decide +kernel
theorem dX3_close_53 : decode cX3_close 53 = .ok (.invokevirtual 36, 3) := by decide +kernel
theorem dX3_close_56 : decode cX3_close 56 = .ok (.return_, 1) := by decide +kernel
set_option maxRecDepth 20000 in
theorem ggX3_debtOf_X6_at : GoodIn wsX3_debtOf wsX6_at := goodIn_r _ [6, 7, 13] (by decide +kernel) (by decide +kernel)
set_option maxRecDepth 20000 in
theorem gX3_debtOf_X6_at : GoodIn wsX3_debtOf (wsV RX3 39 RX6 yX6_at wsX6_at) := goodIn_app (goodIn_of _ (by decide +kernel)) ggX3_debtOf_X6_at
theorem dX3_debtOf_0 : decode cX3_debtOf 0 = .ok (.aload_n 0, 1) := by decide +kernel
theorem dX3_debtOf_1 : decode cX3_debtOf 1 = .ok (.getfield 20, 3) := by decide +kernel
theorem dX3_debtOf_4 : decode cX3_debtOf 4 = .ok (.iload_n 1, 1) := by decide +kernel
theorem dX3_debtOf_5 : decode cX3_debtOf 5 = .ok (.invokevirtual 39, 3) := by decide +kernel
theorem dX3_debtOf_8 : decode cX3_debtOf 8 = .ok (.ireturn, 1) := by decide +kernel
theorem dX3_allFines_0 : decode cX3_allFines 0 = .ok (.aload_n 0, 1) := by decide +kernel
theorem dX3_allFines_1 : decode cX3_allFines 1 = .ok (.getfield 32, 3) := by decide +kernel
theorem dX3_allFines_4 : decode cX3_allFines 4 = .ok (.ireturn, 1) := by decide +kernel
set_option maxRecDepth 20000 in
theorem ggX3_fact_X6_at : GoodIn wsX3_fact wsX6_at := goodIn_r _ [10, 11, 17] (by decide +kernel) (by decide +kernel)
set_option maxRecDepth 20000 in
theorem gX3_fact_X6_at : GoodIn wsX3_fact (wsV RX3 39 RX6 yX6_at wsX6_at) := goodIn_app (goodIn_of _ (by decide +kernel)) ggX3_fact_X6_at
theorem dX3_fact_0 : decode cX3_fact 0 = .ok (.iload_n 2, 1) := by decide +kernel
theorem dX3_fact_1 : decode cX3_fact 1 = .ok (.tableswitch 71 0 4 #[35, 44, 71, 53, 62], 35) := by decide +kernel
theorem dX3_fact_36 : decode cX3_fact 36 = .ok (.aload_n 0, 1) := by decide +kernel
theorem dX3_fact_37 : decode cX3_fact 37 = .ok (.getfield 14, 3) := by decide +kernel
theorem dX3_fact_40 : decode cX3_fact 40 = .ok (.iload_n 1, 1) := by decide +kernel
theorem dX3_fact_41 : decode cX3_fact 41 = .ok (.invokevirtual 39, 3) := by decide +kernel
theorem dX3_fact_44 : decode cX3_fact 44 = .ok (.ireturn, 1) := by decide +kernel
theorem dX3_fact_45 : decode cX3_fact 45 = .ok (.aload_n 0, 1) := by decide +kernel
theorem dX3_fact_46 : decode cX3_fact 46 = .ok (.getfield 20, 3) := by decide +kernel
theorem dX3_fact_49 : decode cX3_fact 49 = .ok (.iload_n 1, 1) := by decide +kernel
theorem dX3_fact_50 : decode cX3_fact 50 = .ok (.invokevirtual 39, 3) := by decide +kernel
theorem dX3_fact_53 : decode cX3_fact 53 = .ok (.ireturn, 1) := by decide +kernel
theorem dX3_fact_54 : decode cX3_fact 54 = .ok (.aload_n 0, 1) := by decide +kernel
theorem dX3_fact_55 : decode cX3_fact 55 = .ok (.getfield 23, 3) := by decide +kernel
theorem dX3_fact_58 : decode cX3_fact 58 = .ok (.iload_n 1, 1) := by decide +kernel
theorem dX3_fact_59 : decode cX3_fact 59 = .ok (.invokevirtual 39, 3) := by decide +kernel
theorem dX3_fact_62 : decode cX3_fact 62 = .ok (.ireturn, 1) := by decide +kernel
theorem dX3_fact_63 : decode cX3_fact 63 = .ok (.aload_n 0, 1) := by decide +kernel
theorem dX3_fact_64 : decode cX3_fact 64 = .ok (.getfield 26, 3) := by decide +kernel
theorem dX3_fact_67 : decode cX3_fact 67 = .ok (.iload_n 1, 1) := by decide +kernel
theorem dX3_fact_68 : decode cX3_fact 68 = .ok (.invokevirtual 39, 3) := by decide +kernel
theorem dX3_fact_71 : decode cX3_fact 71 = .ok (.ireturn, 1) := by decide +kernel
theorem dX3_fact_72 : decode cX3_fact 72 = .ok (.ldc 43, 2) := by decide +kernel
theorem dX3_fact_74 : decode cX3_fact 74 = .ok (.ireturn, 1) := by decide +kernel
set_option maxRecDepth 20000 in
theorem ggX4_init_X6_init : GoodIn wsX4_init wsX6_init := goodIn_r _ [10, 11, 2, 3, 12, 13, 14, 15, 16, 17, 18, 19, 20, 21, 22] (by decide +kernel) (by decide +kernel)
set_option maxRecDepth 20000 in
theorem gX4_init_X6_init : GoodIn wsX4_init (wsX6_init) := ggX4_init_X6_init
theorem dX4_init_0 : decode cX4_init 0 = .ok (.aload_n 0, 1) := by decide +kernel
theorem dX4_init_1 : decode cX4_init 1 = .ok (.invokespecial 3, 3) := by decide +kernel
theorem dX4_init_4 : decode cX4_init 4 = .ok (.aload_n 0, 1) := by decide +kernel
theorem dX4_init_5 : decode cX4_init 5 = .ok (.new 9, 3) := by decide +kernel
theorem dX4_init_8 : decode cX4_init 8 = .ok (.dup, 1) := by decide +kernel
theorem dX4_init_9 : decode cX4_init 9 = .ok (.sipush 800, 3) := by decide +kernel
theorem dX4_init_12 : decode cX4_init 12 = .ok (.iconst (-1), 1) := by decide +kernel
theorem dX4_init_13 : decode cX4_init 13 = .ok (.invokespecial 11, 3) := by decide +kernel
theorem dX4_init_16 : decode cX4_init 16 = .ok (.putfield 14, 3) := by decide +kernel
theorem dX4_init_19 : decode cX4_init 19 = .ok (.return_, 1) := by decide +kernel
set_option maxRecDepth 20000 in
theorem ggX4_read_X4_place : GoodIn wsX4_read wsX4_place := goodIn_r _ [5] (by decide +kernel) (by decide +kernel)
set_option maxRecDepth 20000 in
theorem gX4_read_X4_place : GoodIn wsX4_read (va_wsS RX4 20 yX4_place wsX4_place) := goodIn_app (goodIn_of _ (by decide +kernel)) ggX4_read_X4_place
set_option maxRecDepth 20000 in
theorem ggX4_read_X6_put : GoodIn wsX4_read wsX6_put := goodIn_r _ [10, 11, 13] (by decide +kernel) (by decide +kernel)
set_option maxRecDepth 20000 in
theorem gX4_read_X6_put : GoodIn wsX4_read (wsV RX4 24 RX6 yX6_put wsX6_put) := goodIn_app (goodIn_of _ (by decide +kernel)) ggX4_read_X6_put
theorem dX4_read_0 : decode cX4_read 0 = .ok (.aload_n 0, 1) := by decide +kernel
theorem dX4_read_1 : decode cX4_read 1 = .ok (.getfield 14, 3) := by decide +kernel
theorem dX4_read_4 : decode cX4_read 4 = .ok (.iload_n 1, 1) := by decide +kernel
theorem dX4_read_5 : decode cX4_read 5 = .ok (.iload_n 2, 1) := by decide +kernel
theorem dX4_read_6 : decode cX4_read 6 = .ok (.iload_n 3, 1) := by decide +kernel
theorem dX4_read_7 : decode cX4_read 7 = .ok (.invokestatic 20, 3) := by decide +kernel
theorem dX4_read_10 : decode cX4_read 10 = .ok (.iload 4, 2) := by decide +kernel
theorem dX4_read_12 : decode cX4_read 12 = .ok (.invokevirtual 24, 3) := by decide +kernel
theorem dX4_read_15 : decode cX4_read 15 = .ok (.return_, 1) := by decide +kernel
set_option maxRecDepth 20000 in
theorem ggX4_fouledIn_X4_gapIn : GoodIn wsX4_fouledIn wsX4_gapIn := goodIn_r _ [6, 7, 8, 9, 10, 11, 12, 13, 5, 14, 1, 15, 16, 17, 18, 19, 20, 21, 22, 23, 24, 25] (by decide +kernel) (by decide +kernel)
set_option maxRecDepth 20000 in
theorem gX4_fouledIn_X4_gapIn : GoodIn wsX4_fouledIn (wsV RX4 27 RX4 yX4_gapIn wsX4_gapIn) := goodIn_app (goodIn_of _ (by decide +kernel)) ggX4_fouledIn_X4_gapIn
set_option maxRecDepth 20000 in
theorem ggX4_fouledIn_X4_place : GoodIn wsX4_fouledIn wsX4_place := goodIn_r _ [17] (by decide +kernel) (by decide +kernel)
set_option maxRecDepth 20000 in
theorem gX4_fouledIn_X4_place : GoodIn wsX4_fouledIn (va_wsS RX4 20 yX4_place wsX4_place) := goodIn_app (goodIn_of _ (by decide +kernel)) ggX4_fouledIn_X4_place
set_option maxRecDepth 20000 in
theorem ggX4_fouledIn_X6_at : GoodIn wsX4_fouledIn wsX6_at := goodIn_r _ [22, 23, 25] (by decide +kernel) (by decide +kernel)
set_option maxRecDepth 20000 in
theorem gX4_fouledIn_X6_at : GoodIn wsX4_fouledIn (wsV RX4 31 RX6 yX6_at wsX6_at) := goodIn_app (goodIn_of _ (by decide +kernel)) ggX4_fouledIn_X6_at
theorem dX4_fouledIn_0 : decode cX4_fouledIn 0 = .ok (.aload_n 0, 1) := by decide +kernel
theorem dX4_fouledIn_1 : decode cX4_fouledIn 1 = .ok (.iload_n 1, 1) := by decide +kernel
theorem dX4_fouledIn_2 : decode cX4_fouledIn 2 = .ok (.iload_n 2, 1) := by decide +kernel
theorem dX4_fouledIn_3 : decode cX4_fouledIn 3 = .ok (.invokevirtual 27, 3) := by decide +kernel
theorem dX4_fouledIn_6 : decode cX4_fouledIn 6 = .ok (.istore_n 3, 1) := by decide +kernel
theorem dX4_fouledIn_7 : decode cX4_fouledIn 7 = .ok (.iconst 0, 1) := by decide +kernel
theorem dX4_fouledIn_8 : decode cX4_fouledIn 8 = .ok (.istore 4, 2) := by decide +kernel
theorem dX4_fouledIn_10 : decode cX4_fouledIn 10 = .ok (.iconst 0, 1) := by decide +kernel
theorem dX4_fouledIn_11 : decode cX4_fouledIn 11 = .ok (.istore 5, 2) := by decide +kernel
theorem dX4_fouledIn_13 : decode cX4_fouledIn 13 = .ok (.iload 5, 2) := by decide +kernel
theorem dX4_fouledIn_15 : decode cX4_fouledIn 15 = .ok (.iconst 4, 1) := by decide +kernel
theorem dX4_fouledIn_16 : decode cX4_fouledIn 16 = .ok (.if_icmp .ge 42, 3) := by decide +kernel
theorem dX4_fouledIn_19 : decode cX4_fouledIn 19 = .ok (.aload_n 0, 1) := by decide +kernel
theorem dX4_fouledIn_20 : decode cX4_fouledIn 20 = .ok (.getfield 14, 3) := by decide +kernel
theorem dX4_fouledIn_23 : decode cX4_fouledIn 23 = .ok (.iload_n 1, 1) := by decide +kernel
theorem dX4_fouledIn_24 : decode cX4_fouledIn 24 = .ok (.iload_n 2, 1) := by decide +kernel
theorem dX4_fouledIn_25 : decode cX4_fouledIn 25 = .ok (.iload 5, 2) := by decide +kernel
theorem dX4_fouledIn_27 : decode cX4_fouledIn 27 = .ok (.invokestatic 20, 3) := by decide +kernel
theorem dX4_fouledIn_30 : decode cX4_fouledIn 30 = .ok (.invokevirtual 31, 3) := by decide +kernel
theorem dX4_fouledIn_33 : decode cX4_fouledIn 33 = .ok (.istore 6, 2) := by decide +kernel
theorem dX4_fouledIn_35 : decode cX4_fouledIn 35 = .ok (.iload 4, 2) := by decide +kernel
theorem dX4_fouledIn_37 : decode cX4_fouledIn 37 = .ok (.iload 6, 2) := by decide +kernel
theorem dX4_fouledIn_39 : decode cX4_fouledIn 39 = .ok (.iconst (-1), 1) := by decide +kernel
theorem dX4_fouledIn_40 : decode cX4_fouledIn 40 = .ok (.if_icmp .ne 7, 3) := by decide +kernel
theorem dX4_fouledIn_43 : decode cX4_fouledIn 43 = .ok (.iload_n 3, 1) := by decide +kernel
theorem dX4_fouledIn_44 : decode cX4_fouledIn 44 = .ok (.goto 5, 3) := by decide +kernel
theorem dX4_fouledIn_47 : decode cX4_fouledIn 47 = .ok (.iload 6, 2) := by decide +kernel
theorem dX4_fouledIn_49 : decode cX4_fouledIn 49 = .ok (.iadd, 1) := by decide +kernel
theorem dX4_fouledIn_50 : decode cX4_fouledIn 50 = .ok (.istore 4, 2) := by decide +kernel
theorem dX4_fouledIn_52 : decode cX4_fouledIn 52 = .ok (.iinc 5 1, 3) := by decide +kernel
theorem dX4_fouledIn_55 : decode cX4_fouledIn 55 = .ok (.goto (-42), 3) := by decide +kernel
theorem dX4_fouledIn_58 : decode cX4_fouledIn 58 = .ok (.iload 4, 2) := by decide +kernel
theorem dX4_fouledIn_60 : decode cX4_fouledIn 60 = .ok (.ireturn, 1) := by decide +kernel
set_option maxRecDepth 20000 in
theorem ggX4_gapIn_X4_greatest : GoodIn wsX4_gapIn wsX4_greatest := goodIn_r _ [9, 10, 1, 2, 3, 4, 11, 12, 8, 13, 14, 15, 16, 17, 18, 19, 20, 21] (by decide +kernel) (by decide +kernel)
set_option maxRecDepth 20000 in
theorem gX4_gapIn_X4_greatest : GoodIn wsX4_gapIn (wsV RX4 35 RX4 yX4_greatest wsX4_greatest) := goodIn_app (goodIn_of _ (by decide +kernel)) ggX4_gapIn_X4_greatest
theorem dX4_gapIn_0 : decode cX4_gapIn 0 = .ok (.aload_n 0, 1) := by decide +kernel
theorem dX4_gapIn_1 : decode cX4_gapIn 1 = .ok (.iload_n 1, 1) := by decide +kernel
theorem dX4_gapIn_2 : decode cX4_gapIn 2 = .ok (.iload_n 2, 1) := by decide +kernel
theorem dX4_gapIn_3 : decode cX4_gapIn 3 = .ok (.invokevirtual 35, 3) := by decide +kernel
theorem dX4_gapIn_6 : decode cX4_gapIn 6 = .ok (.aload_n 0, 1) := by decide +kernel
theorem dX4_gapIn_7 : decode cX4_gapIn 7 = .ok (.iload_n 1, 1) := by decide +kernel
theorem dX4_gapIn_8 : decode cX4_gapIn 8 = .ok (.iload_n 2, 1) := by decide +kernel
theorem dX4_gapIn_9 : decode cX4_gapIn 9 = .ok (.iconst 1, 1) := by decide +kernel
theorem dX4_gapIn_10 : decode cX4_gapIn 10 = .ok (.isub, 1) := by decide +kernel
theorem dX4_gapIn_11 : decode cX4_gapIn 11 = .ok (.invokevirtual 35, 3) := by decide +kernel
theorem dX4_gapIn_14 : decode cX4_gapIn 14 = .ok (.invokestatic 38, 3) := by decide +kernel
theorem dX4_gapIn_17 : decode cX4_gapIn 17 = .ok (.istore_n 3, 1) := by decide +kernel
theorem dX4_gapIn_18 : decode cX4_gapIn 18 = .ok (.iload_n 3, 1) := by decide +kernel
theorem dX4_gapIn_19 : decode cX4_gapIn 19 = .ok (.iconst (-1), 1) := by decide +kernel
theorem dX4_gapIn_20 : decode cX4_gapIn 20 = .ok (.if_icmp .ne 8, 3) := by decide +kernel
theorem dX4_gapIn_23 : decode cX4_gapIn 23 = .ok (.bipush 10, 2) := by decide +kernel
theorem dX4_gapIn_25 : decode cX4_gapIn 25 = .ok (.goto 17, 3) := by decide +kernel
theorem dX4_gapIn_28 : decode cX4_gapIn 28 = .ok (.iconst 1, 1) := by decide +kernel
theorem dX4_gapIn_29 : decode cX4_gapIn 29 = .ok (.iload_n 3, 1) := by decide +kernel
theorem dX4_gapIn_30 : decode cX4_gapIn 30 = .ok (.bipush 110, 2) := by decide +kernel
theorem dX4_gapIn_32 : decode cX4_gapIn 32 = .ok (.imul, 1) := by decide +kernel
theorem dX4_gapIn_33 : decode cX4_gapIn 33 = .ok (.bipush 99, 2) := by decide +kernel
theorem dX4_gapIn_35 : decode cX4_gapIn 35 = .ok (.iadd, 1) := by decide +kernel
theorem dX4_gapIn_36 : decode cX4_gapIn 36 = .ok (.bipush 100, 2) := by decide +kernel
theorem dX4_gapIn_38 : decode cX4_gapIn 38 = .ok (.idiv, 1) := by decide +kernel
theorem dX4_gapIn_39 : decode cX4_gapIn 39 = .ok (.invokestatic 38, 3) := by decide +kernel
theorem dX4_gapIn_42 : decode cX4_gapIn 42 = .ok (.ireturn, 1) := by decide +kernel
set_option maxRecDepth 20000 in
theorem ggX4_greatest_X4_place : GoodIn wsX4_greatest wsX4_place := goodIn_r _ [9] (by decide +kernel) (by decide +kernel)
set_option maxRecDepth 20000 in
theorem gX4_greatest_X4_place : GoodIn wsX4_greatest (va_wsS RX4 20 yX4_place wsX4_place) := goodIn_app (goodIn_of _ (by decide +kernel)) ggX4_greatest_X4_place
set_option maxRecDepth 20000 in
theorem ggX4_greatest_X6_at : GoodIn wsX4_greatest wsX6_at := goodIn_r _ [14, 15, 17] (by decide +kernel) (by decide +kernel)
set_option maxRecDepth 20000 in
theorem gX4_greatest_X6_at : GoodIn wsX4_greatest (wsV RX4 31 RX6 yX6_at wsX6_at) := goodIn_app (goodIn_of _ (by decide +kernel)) ggX4_greatest_X6_at
theorem dX4_greatest_0 : decode cX4_greatest 0 = .ok (.iconst (-1), 1) := by decide +kernel
theorem dX4_greatest_1 : decode cX4_greatest 1 = .ok (.istore_n 3, 1) := by decide +kernel
theorem dX4_greatest_2 : decode cX4_greatest 2 = .ok (.iconst 0, 1) := by decide +kernel
theorem dX4_greatest_3 : decode cX4_greatest 3 = .ok (.istore 4, 2) := by decide +kernel
theorem dX4_greatest_5 : decode cX4_greatest 5 = .ok (.iload 4, 2) := by decide +kernel
theorem dX4_greatest_7 : decode cX4_greatest 7 = .ok (.iconst 4, 1) := by decide +kernel
theorem dX4_greatest_8 : decode cX4_greatest 8 = .ok (.if_icmp .ge 32, 3) := by decide +kernel
theorem dX4_greatest_11 : decode cX4_greatest 11 = .ok (.iload_n 2, 1) := by decide +kernel
theorem dX4_greatest_12 : decode cX4_greatest 12 = .ok (.ifCond .lt 28, 3) := by decide +kernel
theorem dX4_greatest_15 : decode cX4_greatest 15 = .ok (.iload_n 3, 1) := by decide +kernel
theorem dX4_greatest_16 : decode cX4_greatest 16 = .ok (.aload_n 0, 1) := by decide +kernel
theorem dX4_greatest_17 : decode cX4_greatest 17 = .ok (.getfield 14, 3) := by decide +kernel
theorem dX4_greatest_20 : decode cX4_greatest 20 = .ok (.iload_n 1, 1) := by decide +kernel
theorem dX4_greatest_21 : decode cX4_greatest 21 = .ok (.iload_n 2, 1) := by decide +kernel
theorem dX4_greatest_22 : decode cX4_greatest 22 = .ok (.iload 4, 2) := by decide +kernel
theorem dX4_greatest_24 : decode cX4_greatest 24 = .ok (.invokestatic 20, 3) := by decide +kernel
theorem dX4_greatest_27 : decode cX4_greatest 27 = .ok (.invokevirtual 31, 3) := by decide +kernel
theorem dX4_greatest_30 : decode cX4_greatest 30 = .ok (.invokestatic 38, 3) := by decide +kernel
theorem dX4_greatest_33 : decode cX4_greatest 33 = .ok (.istore_n 3, 1) := by decide +kernel
theorem dX4_greatest_34 : decode cX4_greatest 34 = .ok (.iinc 4 1, 3) := by decide +kernel
theorem dX4_greatest_37 : decode cX4_greatest 37 = .ok (.goto (-32), 3) := by decide +kernel
theorem dX4_greatest_40 : decode cX4_greatest 40 = .ok (.iload_n 3, 1) := by decide +kernel
theorem dX4_greatest_41 : decode cX4_greatest 41 = .ok (.ireturn, 1) := by decide +kernel
theorem dX4_place_0 : decode cX4_place 0 = .ok (.iload_n 0, 1) := by decide +kernel
theorem dX4_place_1 : decode cX4_place 1 = .ok (.bipush 20, 2) := by decide +kernel
theorem dX4_place_3 : decode cX4_place 3 = .ok (.imul, 1) := by decide +kernel
theorem dX4_place_4 : decode cX4_place 4 = .ok (.iload_n 1, 1) := by decide +kernel
theorem dX4_place_5 : decode cX4_place 5 = .ok (.iadd, 1) := by decide +kernel
theorem dX4_place_6 : decode cX4_place 6 = .ok (.iconst 4, 1) := by decide +kernel
theorem dX4_place_7 : decode cX4_place 7 = .ok (.imul, 1) := by decide +kernel
theorem dX4_place_8 : decode cX4_place 8 = .ok (.iload_n 2, 1) := by decide +kernel
theorem dX4_place_9 : decode cX4_place 9 = .ok (.iadd, 1) := by decide +kernel
theorem dX4_place_10 : decode cX4_place 10 = .ok (.ireturn, 1) := by decide +kernel
set_option maxRecDepth 20000 in
theorem ggX5_init_X6_init : GoodIn wsX5_init wsX6_init := goodIn_r _ [17, 18, 2, 3, 19, 20, 21, 22, 23, 24, 25, 26, 27, 28, 29] (by decide +kernel) (by decide +kernel)
set_option maxRecDepth 20000 in
theorem gX5_init_X6_init : GoodIn wsX5_init (wsX6_init) := ggX5_init_X6_init
theorem dX5_init_0 : decode cX5_init 0 = .ok (.aload_n 0, 1) := by decide +kernel
theorem dX5_init_1 : decode cX5_init 1 = .ok (.invokespecial 3, 3) := by decide +kernel
theorem dX5_init_4 : decode cX5_init 4 = .ok (.aload_n 0, 1) := by decide +kernel
theorem dX5_init_5 : decode cX5_init 5 = .ok (.new 9, 3) := by decide +kernel
theorem dX5_init_8 : decode cX5_init 8 = .ok (.dup, 1) := by decide +kernel
theorem dX5_init_9 : decode cX5_init 9 = .ok (.iconst 0, 1) := by decide +kernel
theorem dX5_init_10 : decode cX5_init 10 = .ok (.iconst 0, 1) := by decide +kernel
theorem dX5_init_11 : decode cX5_init 11 = .ok (.invokespecial 11, 3) := by decide +kernel
theorem dX5_init_14 : decode cX5_init 14 = .ok (.putfield 14, 3) := by decide +kernel
theorem dX5_init_17 : decode cX5_init 17 = .ok (.aload_n 0, 1) := by decide +kernel
theorem dX5_init_18 : decode cX5_init 18 = .ok (.new 9, 3) := by decide +kernel
theorem dX5_init_21 : decode cX5_init 21 = .ok (.dup, 1) := by decide +kernel
theorem dX5_init_22 : decode cX5_init 22 = .ok (.iconst 0, 1) := by decide +kernel
theorem dX5_init_23 : decode cX5_init 23 = .ok (.iconst (-1), 1) := by decide +kernel
theorem dX5_init_24 : decode cX5_init 24 = .ok (.invokespecial 11, 3) := by decide +kernel
theorem dX5_init_27 : decode cX5_init 27 = .ok (.putfield 20, 3) := by decide +kernel
theorem dX5_init_30 : decode cX5_init 30 = .ok (.aload_n 0, 1) := by decide +kernel
theorem dX5_init_31 : decode cX5_init 31 = .ok (.new 9, 3) := by decide +kernel
theorem dX5_init_34 : decode cX5_init 34 = .ok (.dup, 1) := by decide +kernel
theorem dX5_init_35 : decode cX5_init 35 = .ok (.iconst 0, 1) := by decide +kernel
theorem dX5_init_36 : decode cX5_init 36 = .ok (.iconst 0, 1) := by decide +kernel
theorem dX5_init_37 : decode cX5_init 37 = .ok (.invokespecial 11, 3) := by decide +kernel
theorem dX5_init_40 : decode cX5_init 40 = .ok (.putfield 23, 3) := by decide +kernel
theorem dX5_init_43 : decode cX5_init 43 = .ok (.aload_n 0, 1) := by decide +kernel
theorem dX5_init_44 : decode cX5_init 44 = .ok (.new 9, 3) := by decide +kernel
theorem dX5_init_47 : decode cX5_init 47 = .ok (.dup, 1) := by decide +kernel
theorem dX5_init_48 : decode cX5_init 48 = .ok (.iconst 0, 1) := by decide +kernel
theorem dX5_init_49 : decode cX5_init 49 = .ok (.iconst (-1), 1) := by decide +kernel
theorem dX5_init_50 : decode cX5_init 50 = .ok (.invokespecial 11, 3) := by decide +kernel
theorem dX5_init_53 : decode cX5_init 53 = .ok (.putfield 26, 3) := by decide +kernel
theorem dX5_init_56 : decode cX5_init 56 = .ok (.aload_n 0, 1) := by decide +kernel
theorem dX5_init_57 : decode cX5_init 57 = .ok (.new 9, 3) := by decide +kernel
theorem dX5_init_60 : decode cX5_init 60 = .ok (.dup, 1) := by decide +kernel
theorem dX5_init_61 : decode cX5_init 61 = .ok (.iconst 0, 1) := by decide +kernel
theorem dX5_init_62 : decode cX5_init 62 = .ok (.iconst (-1), 1) := by decide +kernel
theorem dX5_init_63 : decode cX5_init 63 = .ok (.invokespecial 11, 3) := by decide +kernel
theorem dX5_init_66 : decode cX5_init 66 = .ok (.putfield 29, 3) := by decide +kernel
theorem dX5_init_69 : decode cX5_init 69 = .ok (.aload_n 0, 1) := by decide +kernel
theorem dX5_init_70 : decode cX5_init 70 = .ok (.new 9, 3) := by decide +kernel
theorem dX5_init_73 : decode cX5_init 73 = .ok (.dup, 1) := by decide +kernel
theorem dX5_init_74 : decode cX5_init 74 = .ok (.iconst 0, 1) := by decide +kernel
theorem dX5_init_75 : decode cX5_init 75 = .ok (.iconst 0, 1) := by decide +kernel
theorem dX5_init_76 : decode cX5_init 76 = .ok (.invokespecial 11, 3) := by decide +kernel
theorem dX5_init_79 : decode cX5_init 79 = .ok (.putfield 32, 3) := by decide +kernel
theorem dX5_init_82 : decode cX5_init 82 = .ok (.aload_n 0, 1) := by decide +kernel
theorem dX5_init_83 : decode cX5_init 83 = .ok (.new 9, 3) := by decide +kernel
theorem dX5_init_86 : decode cX5_init 86 = .ok (.dup, 1) := by decide +kernel
theorem dX5_init_87 : decode cX5_init 87 = .ok (.bipush 11, 2) := by decide +kernel
theorem dX5_init_89 : decode cX5_init 89 = .ok (.iconst 0, 1) := by decide +kernel
theorem dX5_init_90 : decode cX5_init 90 = .ok (.invokespecial 11, 3) := by decide +kernel
theorem dX5_init_93 : decode cX5_init 93 = .ok (.putfield 35, 3) := by decide +kernel
theorem dX5_init_96 : decode cX5_init 96 = .ok (.aload_n 0, 1) := by decide +kernel
theorem dX5_init_97 : decode cX5_init 97 = .ok (.new 9, 3) := by decide +kernel
theorem dX5_init_100 : decode cX5_init 100 = .ok (.dup, 1) := by decide +kernel
theorem dX5_init_101 : decode cX5_init 101 = .ok (.bipush 11, 2) := by decide +kernel
theorem dX5_init_103 : decode cX5_init 103 = .ok (.iconst 0, 1) := by decide +kernel
theorem dX5_init_104 : decode cX5_init 104 = .ok (.invokespecial 11, 3) := by decide +kernel
theorem dX5_init_107 : decode cX5_init 107 = .ok (.putfield 38, 3) := by decide +kernel
theorem dX5_init_110 : decode cX5_init 110 = .ok (.return_, 1) := by decide +kernel
theorem dX5_hasRoomFor_0 : decode cX5_hasRoomFor 0 = .ok (.iload_n 1, 1) := by decide +kernel
theorem dX5_hasRoomFor_1 : decode cX5_hasRoomFor 1 = .ok (.sipush 4000, 3) := by decide +kernel
theorem dX5_hasRoomFor_4 : decode cX5_hasRoomFor 4 = .ok (.aload_n 0, 1) := by decide +kernel
theorem dX5_hasRoomFor_5 : decode cX5_hasRoomFor 5 = .ok (.getfield 41, 3) := by decide +kernel
theorem dX5_hasRoomFor_8 : decode cX5_hasRoomFor 8 = .ok (.isub, 1) := by decide +kernel
theorem dX5_hasRoomFor_9 : decode cX5_hasRoomFor 9 = .ok (.if_icmp .gt 7, 3) := by decide +kernel
theorem dX5_hasRoomFor_12 : decode cX5_hasRoomFor 12 = .ok (.iconst 1, 1) := by decide +kernel
theorem dX5_hasRoomFor_13 : decode cX5_hasRoomFor 13 = .ok (.goto 4, 3) := by decide +kernel
theorem dX5_hasRoomFor_16 : decode cX5_hasRoomFor 16 = .ok (.iconst 0, 1) := by decide +kernel
theorem dX5_hasRoomFor_17 : decode cX5_hasRoomFor 17 = .ok (.ireturn, 1) := by decide +kernel
set_option maxRecDepth 20000 in
theorem ggX5_come_X5_makeRoom : GoodIn wsX5_come wsX5_makeRoom := goodIn_r _ [13, 14, 15, 16, 17, 18, 19, 20, 21, 2, 3, 4, 5, 6, 7, 22, 23, 24, 25, 26, 27, 28, 29, 30, 31, 32, 33, 34, 35, 36, 37, 38, 39, 40, 41, 42, 43, 57, 58, 59, 60, 61, 62, 63, 64, 65, 66, 67, 68, 69] (by decide +kernel) (by decide +kernel)
set_option maxRecDepth 20000 in
theorem gX5_come_X5_makeRoom : GoodIn wsX5_come (wsV RX5 45 RX5 yX5_makeRoom wsX5_makeRoom) := goodIn_app (goodIn_of _ (by decide +kernel)) ggX5_come_X5_makeRoom
set_option maxRecDepth 20000 in
theorem ggX5_come_X6_put : GoodIn wsX5_come wsX6_put := goodIn_r _ [47, 27, 69] (by decide +kernel) (by decide +kernel)
set_option maxRecDepth 20000 in
theorem gX5_come_X6_put : GoodIn wsX5_come (wsV RX5 49 RX6 yX6_put wsX6_put) := goodIn_app (goodIn_of _ (by decide +kernel)) ggX5_come_X6_put
set_option maxRecDepth 20000 in
theorem ggX5_come_X6_add : GoodIn wsX5_come wsX6_add := goodIn_r _ [51, 52, 53, 54, 25, 55, 27, 56, 45, 46, 47, 69] (by decide +kernel) (by decide +kernel)
set_option maxRecDepth 20000 in
theorem gX5_come_X6_add : GoodIn wsX5_come (wsV RX5 52 RX6 yX6_add wsX6_add) := goodIn_app (goodIn_of _ (by decide +kernel)) ggX5_come_X6_add
theorem dX5_come_0 : decode cX5_come 0 = .ok (.aload_n 0, 1) := by decide +kernel
theorem dX5_come_1 : decode cX5_come 1 = .ok (.aload_n 0, 1) := by decide +kernel
theorem dX5_come_2 : decode cX5_come 2 = .ok (.getfield 41, 3) := by decide +kernel
theorem dX5_come_5 : decode cX5_come 5 = .ok (.iload_n 1, 1) := by decide +kernel
theorem dX5_come_6 : decode cX5_come 6 = .ok (.iadd, 1) := by decide +kernel
theorem dX5_come_7 : decode cX5_come 7 = .ok (.invokevirtual 45, 3) := by decide +kernel
theorem dX5_come_10 : decode cX5_come 10 = .ok (.iconst 0, 1) := by decide +kernel
theorem dX5_come_11 : decode cX5_come 11 = .ok (.istore 5, 2) := by decide +kernel
theorem dX5_come_13 : decode cX5_come 13 = .ok (.iload 5, 2) := by decide +kernel
theorem dX5_come_15 : decode cX5_come 15 = .ok (.iload_n 1, 1) := by decide +kernel
theorem dX5_come_16 : decode cX5_come 16 = .ok (.if_icmp .ge 92, 3) := by decide +kernel
theorem dX5_come_19 : decode cX5_come 19 = .ok (.aload_n 0, 1) := by decide +kernel
theorem dX5_come_20 : decode cX5_come 20 = .ok (.getfield 14, 3) := by decide +kernel
theorem dX5_come_23 : decode cX5_come 23 = .ok (.aload_n 0, 1) := by decide +kernel
theorem dX5_come_24 : decode cX5_come 24 = .ok (.getfield 41, 3) := by decide +kernel
theorem dX5_come_27 : decode cX5_come 27 = .ok (.iconst 0, 1) := by decide +kernel
theorem dX5_come_28 : decode cX5_come 28 = .ok (.invokevirtual 49, 3) := by decide +kernel
theorem dX5_come_31 : decode cX5_come 31 = .ok (.aload_n 0, 1) := by decide +kernel
theorem dX5_come_32 : decode cX5_come 32 = .ok (.getfield 20, 3) := by decide +kernel
theorem dX5_come_35 : decode cX5_come 35 = .ok (.aload_n 0, 1) := by decide +kernel
theorem dX5_come_36 : decode cX5_come 36 = .ok (.getfield 41, 3) := by decide +kernel
theorem dX5_come_39 : decode cX5_come 39 = .ok (.iload_n 2, 1) := by decide +kernel
theorem dX5_come_40 : decode cX5_come 40 = .ok (.invokevirtual 49, 3) := by decide +kernel
theorem dX5_come_43 : decode cX5_come 43 = .ok (.aload_n 0, 1) := by decide +kernel
theorem dX5_come_44 : decode cX5_come 44 = .ok (.getfield 23, 3) := by decide +kernel
theorem dX5_come_47 : decode cX5_come 47 = .ok (.aload_n 0, 1) := by decide +kernel
theorem dX5_come_48 : decode cX5_come 48 = .ok (.getfield 41, 3) := by decide +kernel
theorem dX5_come_51 : decode cX5_come 51 = .ok (.iload_n 3, 1) := by decide +kernel
theorem dX5_come_52 : decode cX5_come 52 = .ok (.invokevirtual 49, 3) := by decide +kernel
theorem dX5_come_55 : decode cX5_come 55 = .ok (.aload_n 0, 1) := by decide +kernel
theorem dX5_come_56 : decode cX5_come 56 = .ok (.getfield 26, 3) := by decide +kernel
theorem dX5_come_59 : decode cX5_come 59 = .ok (.aload_n 0, 1) := by decide +kernel
theorem dX5_come_60 : decode cX5_come 60 = .ok (.getfield 41, 3) := by decide +kernel
theorem dX5_come_63 : decode cX5_come 63 = .ok (.iconst (-1), 1) := by decide +kernel
theorem dX5_come_64 : decode cX5_come 64 = .ok (.invokevirtual 49, 3) := by decide +kernel
theorem dX5_come_67 : decode cX5_come 67 = .ok (.aload_n 0, 1) := by decide +kernel
theorem dX5_come_68 : decode cX5_come 68 = .ok (.getfield 29, 3) := by decide +kernel
theorem dX5_come_71 : decode cX5_come 71 = .ok (.aload_n 0, 1) := by decide +kernel
theorem dX5_come_72 : decode cX5_come 72 = .ok (.getfield 41, 3) := by decide +kernel
theorem dX5_come_75 : decode cX5_come 75 = .ok (.iload 4, 2) := by decide +kernel
theorem dX5_come_77 : decode cX5_come 77 = .ok (.invokevirtual 49, 3) := by decide +kernel
theorem dX5_come_80 : decode cX5_come 80 = .ok (.aload_n 0, 1) := by decide +kernel
theorem dX5_come_81 : decode cX5_come 81 = .ok (.getfield 32, 3) := by decide +kernel
theorem dX5_come_84 : decode cX5_come 84 = .ok (.aload_n 0, 1) := by decide +kernel
theorem dX5_come_85 : decode cX5_come 85 = .ok (.getfield 41, 3) := by decide +kernel
theorem dX5_come_88 : decode cX5_come 88 = .ok (.iconst 0, 1) := by decide +kernel
theorem dX5_come_89 : decode cX5_come 89 = .ok (.invokevirtual 49, 3) := by decide +kernel
theorem dX5_come_92 : decode cX5_come 92 = .ok (.aload_n 0, 1) := by decide +kernel
theorem dX5_come_93 : decode cX5_come 93 = .ok (.dup, 1) := by decide +kernel
theorem dX5_come_94 : decode cX5_come 94 = .ok (.getfield 41, 3) := by decide +kernel
theorem dX5_come_97 : decode cX5_come 97 = .ok (.iconst 1, 1) := by decide +kernel
theorem dX5_come_98 : decode cX5_come 98 = .ok (.iadd, 1) := by decide +kernel
theorem dX5_come_99 : decode cX5_come 99 = .ok (.putfield 41, 3) := by decide +kernel
theorem dX5_come_102 : decode cX5_come 102 = .ok (.iinc 5 1, 3) := by decide +kernel
theorem dX5_come_105 : decode cX5_come 105 = .ok (.goto (-92), 3) := by decide +kernel
theorem dX5_come_108 : decode cX5_come 108 = .ok (.aload_n 0, 1) := by decide +kernel
theorem dX5_come_109 : decode cX5_come 109 = .ok (.getfield 35, 3) := by decide +kernel
theorem dX5_come_112 : decode cX5_come 112 = .ok (.iload_n 2, 1) := by decide +kernel
theorem dX5_come_113 : decode cX5_come 113 = .ok (.iconst 1, 1) := by decide +kernel
theorem dX5_come_114 : decode cX5_come 114 = .ok (.iadd, 1) := by decide +kernel
theorem dX5_come_115 : decode cX5_come 115 = .ok (.iload_n 1, 1) := by decide +kernel
theorem dX5_come_116 : decode cX5_come 116 = .ok (.invokevirtual 52, 3) := by decide +kernel
theorem dX5_come_119 : decode cX5_come 119 = .ok (.return_, 1) := by decide +kernel
set_option maxRecDepth 20000 in
theorem ggX5_makeRoom_X6_widen : GoodIn wsX5_makeRoom wsX6_widen := goodIn_r _ [19, 20, 21, 22, 23, 24, 25, 26, 27, 28, 29, 30, 31, 32, 7, 4, 8, 33, 34, 35, 36, 49] (by decide +kernel) (by decide +kernel)
set_option maxRecDepth 20000 in
theorem gX5_makeRoom_X6_widen : GoodIn wsX5_makeRoom (wsV RX5 67 RX6 yX6_widen wsX6_widen) := goodIn_app (goodIn_of _ (by decide +kernel)) ggX5_makeRoom_X6_widen
theorem dX5_makeRoom_0 : decode cX5_makeRoom 0 = .ok (.iload_n 1, 1) := by decide +kernel
theorem dX5_makeRoom_1 : decode cX5_makeRoom 1 = .ok (.aload_n 0, 1) := by decide +kernel
theorem dX5_makeRoom_2 : decode cX5_makeRoom 2 = .ok (.getfield 55, 3) := by decide +kernel
theorem dX5_makeRoom_5 : decode cX5_makeRoom 5 = .ok (.if_icmp .gt 4, 3) := by decide +kernel
theorem dX5_makeRoom_8 : decode cX5_makeRoom 8 = .ok (.return_, 1) := by decide +kernel
theorem dX5_makeRoom_9 : decode cX5_makeRoom 9 = .ok (.aload_n 0, 1) := by decide +kernel
theorem dX5_makeRoom_10 : decode cX5_makeRoom 10 = .ok (.sipush 4000, 3) := by decide +kernel
theorem dX5_makeRoom_13 : decode cX5_makeRoom 13 = .ok (.iload_n 1, 1) := by decide +kernel
theorem dX5_makeRoom_14 : decode cX5_makeRoom 14 = .ok (.iconst 2, 1) := by decide +kernel
theorem dX5_makeRoom_15 : decode cX5_makeRoom 15 = .ok (.aload_n 0, 1) := by decide +kernel
theorem dX5_makeRoom_16 : decode cX5_makeRoom 16 = .ok (.getfield 55, 3) := by decide +kernel
theorem dX5_makeRoom_19 : decode cX5_makeRoom 19 = .ok (.imul, 1) := by decide +kernel
theorem dX5_makeRoom_20 : decode cX5_makeRoom 20 = .ok (.invokestatic 58, 3) := by decide +kernel
theorem dX5_makeRoom_23 : decode cX5_makeRoom 23 = .ok (.invokestatic 64, 3) := by decide +kernel
theorem dX5_makeRoom_26 : decode cX5_makeRoom 26 = .ok (.putfield 55, 3) := by decide +kernel
theorem dX5_makeRoom_29 : decode cX5_makeRoom 29 = .ok (.aload_n 0, 1) := by decide +kernel
theorem dX5_makeRoom_30 : decode cX5_makeRoom 30 = .ok (.getfield 14, 3) := by decide +kernel
theorem dX5_makeRoom_33 : decode cX5_makeRoom 33 = .ok (.aload_n 0, 1) := by decide +kernel
theorem dX5_makeRoom_34 : decode cX5_makeRoom 34 = .ok (.getfield 55, 3) := by decide +kernel
theorem dX5_makeRoom_37 : decode cX5_makeRoom 37 = .ok (.invokevirtual 67, 3) := by decide +kernel
theorem dX5_makeRoom_40 : decode cX5_makeRoom 40 = .ok (.aload_n 0, 1) := by decide +kernel
theorem dX5_makeRoom_41 : decode cX5_makeRoom 41 = .ok (.getfield 20, 3) := by decide +kernel
theorem dX5_makeRoom_44 : decode cX5_makeRoom 44 = .ok (.aload_n 0, 1) := by decide +kernel
theorem dX5_makeRoom_45 : decode cX5_makeRoom 45 = .ok (.getfield 55, 3) := by decide +kernel
theorem dX5_makeRoom_48 : decode cX5_makeRoom 48 = .ok (.invokevirtual 67, 3) := by decide +kernel
theorem dX5_makeRoom_51 : decode cX5_makeRoom 51 = .ok (.aload_n 0, 1) := by decide +kernel
theorem dX5_makeRoom_52 : decode cX5_makeRoom 52 = .ok (.getfield 23, 3) := by decide +kernel
theorem dX5_makeRoom_55 : decode cX5_makeRoom 55 = .ok (.aload_n 0, 1) := by decide +kernel
theorem dX5_makeRoom_56 : decode cX5_makeRoom 56 = .ok (.getfield 55, 3) := by decide +kernel
theorem dX5_makeRoom_59 : decode cX5_makeRoom 59 = .ok (.invokevirtual 67, 3) := by decide +kernel
theorem dX5_makeRoom_62 : decode cX5_makeRoom 62 = .ok (.aload_n 0, 1) := by decide +kernel
theorem dX5_makeRoom_63 : decode cX5_makeRoom 63 = .ok (.getfield 26, 3) := by decide +kernel
theorem dX5_makeRoom_66 : decode cX5_makeRoom 66 = .ok (.aload_n 0, 1) := by decide +kernel
theorem dX5_makeRoom_67 : decode cX5_makeRoom 67 = .ok (.getfield 55, 3) := by decide +kernel
theorem dX5_makeRoom_70 : decode cX5_makeRoom 70 = .ok (.invokevirtual 67, 3) := by decide +kernel
theorem dX5_makeRoom_73 : decode cX5_makeRoom 73 = .ok (.aload_n 0, 1) := by decide +kernel
theorem dX5_makeRoom_74 : decode cX5_makeRoom 74 = .ok (.getfield 29, 3) := by decide +kernel
theorem dX5_makeRoom_77 : decode cX5_makeRoom 77 = .ok (.aload_n 0, 1) := by decide +kernel
theorem dX5_makeRoom_78 : decode cX5_makeRoom 78 = .ok (.getfield 55, 3) := by decide +kernel
theorem dX5_makeRoom_81 : decode cX5_makeRoom 81 = .ok (.invokevirtual 67, 3) := by decide +kernel
theorem dX5_makeRoom_84 : decode cX5_makeRoom 84 = .ok (.aload_n 0, 1) := by decide +kernel
theorem dX5_makeRoom_85 : decode cX5_makeRoom 85 = .ok (.getfield 32, 3) := by decide +kernel
theorem dX5_makeRoom_88 : decode cX5_makeRoom 88 = .ok (.aload_n 0, 1) := by decide +kernel
theorem dX5_makeRoom_89 : decode cX5_makeRoom 89 = .ok (.getfield 55, 3) := by decide +kernel
theorem dX5_makeRoom_92 : decode cX5_makeRoom 92 = .ok (.invokevirtual 67, 3) := by decide +kernel
theorem dX5_makeRoom_95 : decode cX5_makeRoom 95 = .ok (.return_, 1) := by decide +kernel
set_option maxRecDepth 20000 in
theorem ggX5_pass_X5_leastOf : GoodIn wsX5_pass wsX5_leastOf := goodIn_r _ [13, 3, 14, 1, 15, 16, 17, 18, 19, 20, 21, 22, 23, 12, 24, 25, 26, 27, 28, 29, 36, 37, 38, 39, 40, 41, 42, 43, 44, 45, 46, 47, 48] (by decide +kernel) (by decide +kernel)
set_option maxRecDepth 20000 in
theorem gX5_pass_X5_leastOf : GoodIn wsX5_pass (wsV RX5 70 RX5 yX5_leastOf wsX5_leastOf) := goodIn_app (goodIn_of _ (by decide +kernel)) ggX5_pass_X5_leastOf
set_option maxRecDepth 20000 in
theorem ggX5_pass_X6_put : GoodIn wsX5_pass wsX6_put := goodIn_r _ [29, 20, 48] (by decide +kernel) (by decide +kernel)
set_option maxRecDepth 20000 in
theorem gX5_pass_X6_put : GoodIn wsX5_pass (wsV RX5 49 RX6 yX6_put wsX6_put) := goodIn_app (goodIn_of _ (by decide +kernel)) ggX5_pass_X6_put
set_option maxRecDepth 20000 in
theorem ggX5_pass_X6_add : GoodIn wsX5_pass wsX6_add := goodIn_r _ [33, 34, 16, 17, 18, 19, 20, 35, 27, 28, 29, 48] (by decide +kernel) (by decide +kernel)
set_option maxRecDepth 20000 in
theorem gX5_pass_X6_add : GoodIn wsX5_pass (wsV RX5 52 RX6 yX6_add wsX6_add) := goodIn_app (goodIn_of _ (by decide +kernel)) ggX5_pass_X6_add
set_option maxRecDepth 20000 in
theorem ggX5_pass_X6_at : GoodIn wsX5_pass wsX6_at := goodIn_r _ [19, 20, 48] (by decide +kernel) (by decide +kernel)
set_option maxRecDepth 20000 in
theorem gX5_pass_X6_at : GoodIn wsX5_pass (wsV RX5 74 RX6 yX6_at wsX6_at) := goodIn_app (goodIn_of _ (by decide +kernel)) ggX5_pass_X6_at
theorem dX5_pass_0 : decode cX5_pass 0 = .ok (.iconst 0, 1) := by decide +kernel
theorem dX5_pass_1 : decode cX5_pass 1 = .ok (.istore 4, 2) := by decide +kernel
theorem dX5_pass_3 : decode cX5_pass 3 = .ok (.iload 4, 2) := by decide +kernel
theorem dX5_pass_5 : decode cX5_pass 5 = .ok (.iload_n 3, 1) := by decide +kernel
theorem dX5_pass_6 : decode cX5_pass 6 = .ok (.if_icmp .ge 61, 3) := by decide +kernel
theorem dX5_pass_9 : decode cX5_pass 9 = .ok (.aload_n 0, 1) := by decide +kernel
theorem dX5_pass_10 : decode cX5_pass 10 = .ok (.iload_n 1, 1) := by decide +kernel
theorem dX5_pass_11 : decode cX5_pass 11 = .ok (.invokevirtual 70, 3) := by decide +kernel
theorem dX5_pass_14 : decode cX5_pass 14 = .ok (.istore 5, 2) := by decide +kernel
theorem dX5_pass_16 : decode cX5_pass 16 = .ok (.aload_n 0, 1) := by decide +kernel
theorem dX5_pass_17 : decode cX5_pass 17 = .ok (.getfield 20, 3) := by decide +kernel
theorem dX5_pass_20 : decode cX5_pass 20 = .ok (.iload 5, 2) := by decide +kernel
theorem dX5_pass_22 : decode cX5_pass 22 = .ok (.iload_n 2, 1) := by decide +kernel
theorem dX5_pass_23 : decode cX5_pass 23 = .ok (.invokevirtual 49, 3) := by decide +kernel
theorem dX5_pass_26 : decode cX5_pass 26 = .ok (.aload_n 0, 1) := by decide +kernel
theorem dX5_pass_27 : decode cX5_pass 27 = .ok (.getfield 32, 3) := by decide +kernel
theorem dX5_pass_30 : decode cX5_pass 30 = .ok (.iload 5, 2) := by decide +kernel
theorem dX5_pass_32 : decode cX5_pass 32 = .ok (.iconst 1, 1) := by decide +kernel
theorem dX5_pass_33 : decode cX5_pass 33 = .ok (.invokevirtual 52, 3) := by decide +kernel
theorem dX5_pass_36 : decode cX5_pass 36 = .ok (.aload_n 0, 1) := by decide +kernel
theorem dX5_pass_37 : decode cX5_pass 37 = .ok (.getfield 38, 3) := by decide +kernel
theorem dX5_pass_40 : decode cX5_pass 40 = .ok (.iload_n 2, 1) := by decide +kernel
theorem dX5_pass_41 : decode cX5_pass 41 = .ok (.iconst 1, 1) := by decide +kernel
theorem dX5_pass_42 : decode cX5_pass 42 = .ok (.iadd, 1) := by decide +kernel
theorem dX5_pass_43 : decode cX5_pass 43 = .ok (.aload_n 0, 1) := by decide +kernel
theorem dX5_pass_44 : decode cX5_pass 44 = .ok (.getfield 38, 3) := by decide +kernel
theorem dX5_pass_47 : decode cX5_pass 47 = .ok (.iload_n 2, 1) := by decide +kernel
theorem dX5_pass_48 : decode cX5_pass 48 = .ok (.iconst 1, 1) := by decide +kernel
theorem dX5_pass_49 : decode cX5_pass 49 = .ok (.iadd, 1) := by decide +kernel
theorem dX5_pass_50 : decode cX5_pass 50 = .ok (.invokevirtual 74, 3) := by decide +kernel
theorem dX5_pass_53 : decode cX5_pass 53 = .ok (.iload 5, 2) := by decide +kernel
theorem dX5_pass_55 : decode cX5_pass 55 = .ok (.invokestatic 64, 3) := by decide +kernel
theorem dX5_pass_58 : decode cX5_pass 58 = .ok (.invokevirtual 49, 3) := by decide +kernel
theorem dX5_pass_61 : decode cX5_pass 61 = .ok (.iinc 4 1, 3) := by decide +kernel
theorem dX5_pass_64 : decode cX5_pass 64 = .ok (.goto (-61), 3) := by decide +kernel
theorem dX5_pass_67 : decode cX5_pass 67 = .ok (.aload_n 0, 1) := by decide +kernel
theorem dX5_pass_68 : decode cX5_pass 68 = .ok (.getfield 35, 3) := by decide +kernel
theorem dX5_pass_71 : decode cX5_pass 71 = .ok (.iload_n 1, 1) := by decide +kernel
theorem dX5_pass_72 : decode cX5_pass 72 = .ok (.iconst 1, 1) := by decide +kernel
theorem dX5_pass_73 : decode cX5_pass 73 = .ok (.iadd, 1) := by decide +kernel
theorem dX5_pass_74 : decode cX5_pass 74 = .ok (.iload_n 3, 1) := by decide +kernel
theorem dX5_pass_75 : decode cX5_pass 75 = .ok (.ineg, 1) := by decide +kernel
theorem dX5_pass_76 : decode cX5_pass 76 = .ok (.invokevirtual 52, 3) := by decide +kernel
theorem dX5_pass_79 : decode cX5_pass 79 = .ok (.aload_n 0, 1) := by decide +kernel
theorem dX5_pass_80 : decode cX5_pass 80 = .ok (.getfield 35, 3) := by decide +kernel
theorem dX5_pass_83 : decode cX5_pass 83 = .ok (.iload_n 2, 1) := by decide +kernel
theorem dX5_pass_84 : decode cX5_pass 84 = .ok (.iconst 1, 1) := by decide +kernel
theorem dX5_pass_85 : decode cX5_pass 85 = .ok (.iadd, 1) := by decide +kernel
theorem dX5_pass_86 : decode cX5_pass 86 = .ok (.iload_n 3, 1) := by decide +kernel
theorem dX5_pass_87 : decode cX5_pass 87 = .ok (.invokevirtual 52, 3) := by decide +kernel
theorem dX5_pass_90 : decode cX5_pass 90 = .ok (.return_, 1) := by decide +kernel
set_option maxRecDepth 20000 in
theorem ggX5_use_X5_leastOf : GoodIn wsX5_use wsX5_leastOf := goodIn_r _ [9, 10, 11, 12, 13, 14, 15, 16, 17, 18, 19, 20, 21, 8, 22, 1, 23, 24, 25, 26, 33, 34, 35, 36, 37, 38, 39, 40, 41, 42, 43, 44, 45] (by decide +kernel) (by decide +kernel)
set_option maxRecDepth 20000 in
theorem gX5_use_X5_leastOf : GoodIn wsX5_use (wsV RX5 70 RX5 yX5_leastOf wsX5_leastOf) := goodIn_app (goodIn_of _ (by decide +kernel)) ggX5_use_X5_leastOf
set_option maxRecDepth 20000 in
theorem ggX5_use_X6_put : GoodIn wsX5_use wsX6_put := goodIn_r _ [26, 18, 45] (by decide +kernel) (by decide +kernel)
set_option maxRecDepth 20000 in
theorem gX5_use_X6_put : GoodIn wsX5_use (wsV RX5 49 RX6 yX6_put wsX6_put) := goodIn_app (goodIn_of _ (by decide +kernel)) ggX5_use_X6_put
set_option maxRecDepth 20000 in
theorem ggX5_use_X6_add : GoodIn wsX5_use wsX6_add := goodIn_r _ [30, 31, 14, 15, 16, 17, 18, 32, 24, 25, 26, 45] (by decide +kernel) (by decide +kernel)
set_option maxRecDepth 20000 in
theorem gX5_use_X6_add : GoodIn wsX5_use (wsV RX5 52 RX6 yX6_add wsX6_add) := goodIn_app (goodIn_of _ (by decide +kernel)) ggX5_use_X6_add
theorem dX5_use_0 : decode cX5_use 0 = .ok (.iconst 0, 1) := by decide +kernel
theorem dX5_use_1 : decode cX5_use 1 = .ok (.istore 4, 2) := by decide +kernel
theorem dX5_use_3 : decode cX5_use 3 = .ok (.iload 4, 2) := by decide +kernel
theorem dX5_use_5 : decode cX5_use 5 = .ok (.iload_n 2, 1) := by decide +kernel
theorem dX5_use_6 : decode cX5_use 6 = .ok (.if_icmp .ge 36, 3) := by decide +kernel
theorem dX5_use_9 : decode cX5_use 9 = .ok (.aload_n 0, 1) := by decide +kernel
theorem dX5_use_10 : decode cX5_use 10 = .ok (.iload_n 1, 1) := by decide +kernel
theorem dX5_use_11 : decode cX5_use 11 = .ok (.invokevirtual 70, 3) := by decide +kernel
theorem dX5_use_14 : decode cX5_use 14 = .ok (.istore 5, 2) := by decide +kernel
theorem dX5_use_16 : decode cX5_use 16 = .ok (.aload_n 0, 1) := by decide +kernel
theorem dX5_use_17 : decode cX5_use 17 = .ok (.getfield 14, 3) := by decide +kernel
theorem dX5_use_20 : decode cX5_use 20 = .ok (.iload 5, 2) := by decide +kernel
theorem dX5_use_22 : decode cX5_use 22 = .ok (.iconst 1, 1) := by decide +kernel
theorem dX5_use_23 : decode cX5_use 23 = .ok (.invokevirtual 49, 3) := by decide +kernel
theorem dX5_use_26 : decode cX5_use 26 = .ok (.aload_n 0, 1) := by decide +kernel
theorem dX5_use_27 : decode cX5_use 27 = .ok (.getfield 26, 3) := by decide +kernel
theorem dX5_use_30 : decode cX5_use 30 = .ok (.iload 5, 2) := by decide +kernel
theorem dX5_use_32 : decode cX5_use 32 = .ok (.iload_n 3, 1) := by decide +kernel
theorem dX5_use_33 : decode cX5_use 33 = .ok (.invokevirtual 49, 3) := by decide +kernel
theorem dX5_use_36 : decode cX5_use 36 = .ok (.iinc 4 1, 3) := by decide +kernel
theorem dX5_use_39 : decode cX5_use 39 = .ok (.goto (-36), 3) := by decide +kernel
theorem dX5_use_42 : decode cX5_use 42 = .ok (.aload_n 0, 1) := by decide +kernel
theorem dX5_use_43 : decode cX5_use 43 = .ok (.getfield 35, 3) := by decide +kernel
theorem dX5_use_46 : decode cX5_use 46 = .ok (.iload_n 1, 1) := by decide +kernel
theorem dX5_use_47 : decode cX5_use 47 = .ok (.iconst 1, 1) := by decide +kernel
theorem dX5_use_48 : decode cX5_use 48 = .ok (.iadd, 1) := by decide +kernel
theorem dX5_use_49 : decode cX5_use 49 = .ok (.iload_n 2, 1) := by decide +kernel
theorem dX5_use_50 : decode cX5_use 50 = .ok (.ineg, 1) := by decide +kernel
theorem dX5_use_51 : decode cX5_use 51 = .ok (.invokevirtual 52, 3) := by decide +kernel
theorem dX5_use_54 : decode cX5_use 54 = .ok (.aload_n 0, 1) := by decide +kernel
theorem dX5_use_55 : decode cX5_use 55 = .ok (.dup, 1) := by decide +kernel
theorem dX5_use_56 : decode cX5_use 56 = .ok (.getfield 77, 3) := by decide +kernel
theorem dX5_use_59 : decode cX5_use 59 = .ok (.iload_n 2, 1) := by decide +kernel
theorem dX5_use_60 : decode cX5_use 60 = .ok (.iadd, 1) := by decide +kernel
theorem dX5_use_61 : decode cX5_use 61 = .ok (.putfield 77, 3) := by decide +kernel
theorem dX5_use_64 : decode cX5_use 64 = .ok (.return_, 1) := by decide +kernel
set_option maxRecDepth 20000 in
theorem ggX5_strike_X5_leastOf : GoodIn wsX5_strike wsX5_leastOf := goodIn_r _ [5, 6, 7, 8, 9, 10, 11, 12, 13, 14, 15, 16, 17, 4, 18, 19, 20, 21, 22, 23, 36, 37, 38, 39, 40, 41, 42, 43, 44, 45, 46, 47, 48] (by decide +kernel) (by decide +kernel)
set_option maxRecDepth 20000 in
theorem gX5_strike_X5_leastOf : GoodIn wsX5_strike (wsV RX5 70 RX5 yX5_leastOf wsX5_leastOf) := goodIn_app (goodIn_of _ (by decide +kernel)) ggX5_strike_X5_leastOf
set_option maxRecDepth 20000 in
theorem ggX5_strike_X5_strikeOne : GoodIn wsX5_strike wsX5_strikeOne := goodIn_r _ [27, 19, 28, 8, 29, 20, 21, 22, 12, 23, 14, 9, 10, 11, 13, 30, 31, 32, 33, 34, 35, 36, 37, 38, 39, 40, 41, 42, 43, 44, 45, 46, 47, 48] (by decide +kernel) (by decide +kernel)
set_option maxRecDepth 20000 in
theorem gX5_strike_X5_strikeOne : GoodIn wsX5_strike (wsV RX5 80 RX5 yX5_strikeOne wsX5_strikeOne) := goodIn_app (goodIn_of _ (by decide +kernel)) ggX5_strike_X5_strikeOne
theorem dX5_strike_0 : decode cX5_strike 0 = .ok (.iconst 0, 1) := by decide +kernel
theorem dX5_strike_1 : decode cX5_strike 1 = .ok (.istore_n 3, 1) := by decide +kernel
theorem dX5_strike_2 : decode cX5_strike 2 = .ok (.iload_n 3, 1) := by decide +kernel
theorem dX5_strike_3 : decode cX5_strike 3 = .ok (.iload_n 2, 1) := by decide +kernel
theorem dX5_strike_4 : decode cX5_strike 4 = .ok (.if_icmp .ge 18, 3) := by decide +kernel
theorem dX5_strike_7 : decode cX5_strike 7 = .ok (.aload_n 0, 1) := by decide +kernel
theorem dX5_strike_8 : decode cX5_strike 8 = .ok (.aload_n 0, 1) := by decide +kernel
theorem dX5_strike_9 : decode cX5_strike 9 = .ok (.iload_n 1, 1) := by decide +kernel
theorem dX5_strike_10 : decode cX5_strike 10 = .ok (.invokevirtual 70, 3) := by decide +kernel
theorem dX5_strike_13 : decode cX5_strike 13 = .ok (.invokevirtual 80, 3) := by decide +kernel
theorem dX5_strike_16 : decode cX5_strike 16 = .ok (.iinc 3 1, 3) := by decide +kernel
theorem dX5_strike_19 : decode cX5_strike 19 = .ok (.goto (-17), 3) := by decide +kernel
theorem dX5_strike_22 : decode cX5_strike 22 = .ok (.return_, 1) := by decide +kernel
set_option maxRecDepth 20000 in
theorem ggX5_strikeOne_X6_put : GoodIn wsX5_strikeOne wsX6_put := goodIn_r _ [9, 10, 33] (by decide +kernel) (by decide +kernel)
set_option maxRecDepth 20000 in
theorem gX5_strikeOne_X6_put : GoodIn wsX5_strikeOne (wsV RX5 49 RX6 yX6_put wsX6_put) := goodIn_app (goodIn_of _ (by decide +kernel)) ggX5_strikeOne_X6_put
set_option maxRecDepth 20000 in
theorem ggX5_strikeOne_X6_at : GoodIn wsX5_strikeOne wsX6_at := goodIn_r _ [14, 10, 33] (by decide +kernel) (by decide +kernel)
set_option maxRecDepth 20000 in
theorem gX5_strikeOne_X6_at : GoodIn wsX5_strikeOne (wsV RX5 74 RX6 yX6_at wsX6_at) := goodIn_app (goodIn_of _ (by decide +kernel)) ggX5_strikeOne_X6_at
set_option maxRecDepth 20000 in
theorem ggX5_strikeOne_X6_add : GoodIn wsX5_strikeOne wsX6_add := goodIn_r _ [18, 19, 12, 13, 8, 14, 10, 20, 6, 7, 9, 33] (by decide +kernel) (by decide +kernel)
set_option maxRecDepth 20000 in
theorem gX5_strikeOne_X6_add : GoodIn wsX5_strikeOne (wsV RX5 52 RX6 yX6_add wsX6_add) := goodIn_app (goodIn_of _ (by decide +kernel)) ggX5_strikeOne_X6_add
theorem dX5_strikeOne_0 : decode cX5_strikeOne 0 = .ok (.aload_n 0, 1) := by decide +kernel
theorem dX5_strikeOne_1 : decode cX5_strikeOne 1 = .ok (.getfield 14, 3) := by decide +kernel
theorem dX5_strikeOne_4 : decode cX5_strikeOne 4 = .ok (.iload_n 1, 1) := by decide +kernel
theorem dX5_strikeOne_5 : decode cX5_strikeOne 5 = .ok (.iconst 2, 1) := by decide +kernel
theorem dX5_strikeOne_6 : decode cX5_strikeOne 6 = .ok (.invokevirtual 49, 3) := by decide +kernel
theorem dX5_strikeOne_9 : decode cX5_strikeOne 9 = .ok (.aload_n 0, 1) := by decide +kernel
theorem dX5_strikeOne_10 : decode cX5_strikeOne 10 = .ok (.getfield 35, 3) := by decide +kernel
theorem dX5_strikeOne_13 : decode cX5_strikeOne 13 = .ok (.aload_n 0, 1) := by decide +kernel
theorem dX5_strikeOne_14 : decode cX5_strikeOne 14 = .ok (.getfield 20, 3) := by decide +kernel
theorem dX5_strikeOne_17 : decode cX5_strikeOne 17 = .ok (.iload_n 1, 1) := by decide +kernel
theorem dX5_strikeOne_18 : decode cX5_strikeOne 18 = .ok (.invokevirtual 74, 3) := by decide +kernel
theorem dX5_strikeOne_21 : decode cX5_strikeOne 21 = .ok (.iconst 1, 1) := by decide +kernel
theorem dX5_strikeOne_22 : decode cX5_strikeOne 22 = .ok (.iadd, 1) := by decide +kernel
theorem dX5_strikeOne_23 : decode cX5_strikeOne 23 = .ok (.iconst (-1), 1) := by decide +kernel
theorem dX5_strikeOne_24 : decode cX5_strikeOne 24 = .ok (.invokevirtual 52, 3) := by decide +kernel
theorem dX5_strikeOne_27 : decode cX5_strikeOne 27 = .ok (.aload_n 0, 1) := by decide +kernel
theorem dX5_strikeOne_28 : decode cX5_strikeOne 28 = .ok (.dup, 1) := by decide +kernel
theorem dX5_strikeOne_29 : decode cX5_strikeOne 29 = .ok (.getfield 83, 3) := by decide +kernel
theorem dX5_strikeOne_32 : decode cX5_strikeOne 32 = .ok (.iconst 1, 1) := by decide +kernel
theorem dX5_strikeOne_33 : decode cX5_strikeOne 33 = .ok (.iadd, 1) := by decide +kernel
theorem dX5_strikeOne_34 : decode cX5_strikeOne 34 = .ok (.putfield 83, 3) := by decide +kernel
theorem dX5_strikeOne_37 : decode cX5_strikeOne 37 = .ok (.return_, 1) := by decide +kernel
set_option maxRecDepth 20000 in
theorem ggX5_leastOf_X6_at : GoodIn wsX5_leastOf wsX6_at := goodIn_r _ [8, 9, 32] (by decide +kernel) (by decide +kernel)
set_option maxRecDepth 20000 in
theorem gX5_leastOf_X6_at : GoodIn wsX5_leastOf (wsV RX5 74 RX6 yX6_at wsX6_at) := goodIn_app (goodIn_of _ (by decide +kernel)) ggX5_leastOf_X6_at
set_option maxRecDepth 20000 in
theorem ggX5_leastOf_X5_isHeld : GoodIn wsX5_leastOf wsX5_isHeld := goodIn_r _ [14, 15, 4, 5, 6, 7, 8, 9, 20, 21, 22, 23, 24, 25, 26, 27, 28, 29, 30, 31, 32] (by decide +kernel) (by decide +kernel)
set_option maxRecDepth 20000 in
theorem gX5_leastOf_X5_isHeld : GoodIn wsX5_leastOf (wsV RX5 86 RX5 yX5_isHeld wsX5_isHeld) := goodIn_app (goodIn_of _ (by decide +kernel)) ggX5_leastOf_X5_isHeld
set_option maxRecDepth 20000 in
theorem ggX5_leastOf_X6_put : GoodIn wsX5_leastOf wsX6_put := goodIn_r _ [19, 9, 32] (by decide +kernel) (by decide +kernel)
set_option maxRecDepth 20000 in
theorem gX5_leastOf_X6_put : GoodIn wsX5_leastOf (wsV RX5 49 RX6 yX6_put wsX6_put) := goodIn_app (goodIn_of _ (by decide +kernel)) ggX5_leastOf_X6_put
theorem dX5_leastOf_0 : decode cX5_leastOf 0 = .ok (.aload_n 0, 1) := by decide +kernel
theorem dX5_leastOf_1 : decode cX5_leastOf 1 = .ok (.getfield 38, 3) := by decide +kernel
theorem dX5_leastOf_4 : decode cX5_leastOf 4 = .ok (.iload_n 1, 1) := by decide +kernel
theorem dX5_leastOf_5 : decode cX5_leastOf 5 = .ok (.iconst 1, 1) := by decide +kernel
theorem dX5_leastOf_6 : decode cX5_leastOf 6 = .ok (.iadd, 1) := by decide +kernel
theorem dX5_leastOf_7 : decode cX5_leastOf 7 = .ok (.invokevirtual 74, 3) := by decide +kernel
theorem dX5_leastOf_10 : decode cX5_leastOf 10 = .ok (.istore_n 2, 1) := by decide +kernel
theorem dX5_leastOf_11 : decode cX5_leastOf 11 = .ok (.iload_n 2, 1) := by decide +kernel
theorem dX5_leastOf_12 : decode cX5_leastOf 12 = .ok (.aload_n 0, 1) := by decide +kernel
theorem dX5_leastOf_13 : decode cX5_leastOf 13 = .ok (.getfield 41, 3) := by decide +kernel
theorem dX5_leastOf_16 : decode cX5_leastOf 16 = .ok (.if_icmp .ge 29, 3) := by decide +kernel
theorem dX5_leastOf_19 : decode cX5_leastOf 19 = .ok (.aload_n 0, 1) := by decide +kernel
theorem dX5_leastOf_20 : decode cX5_leastOf 20 = .ok (.iload_n 2, 1) := by decide +kernel
theorem dX5_leastOf_21 : decode cX5_leastOf 21 = .ok (.invokevirtual 86, 3) := by decide +kernel
theorem dX5_leastOf_24 : decode cX5_leastOf 24 = .ok (.ifCond .eq 15, 3) := by decide +kernel
theorem dX5_leastOf_27 : decode cX5_leastOf 27 = .ok (.aload_n 0, 1) := by decide +kernel
theorem dX5_leastOf_28 : decode cX5_leastOf 28 = .ok (.getfield 20, 3) := by decide +kernel
theorem dX5_leastOf_31 : decode cX5_leastOf 31 = .ok (.iload_n 2, 1) := by decide +kernel
theorem dX5_leastOf_32 : decode cX5_leastOf 32 = .ok (.invokevirtual 74, 3) := by decide +kernel
theorem dX5_leastOf_35 : decode cX5_leastOf 35 = .ok (.iload_n 1, 1) := by decide +kernel
theorem dX5_leastOf_36 : decode cX5_leastOf 36 = .ok (.if_icmp .eq 9, 3) := by decide +kernel
theorem dX5_leastOf_39 : decode cX5_leastOf 39 = .ok (.iinc 2 1, 3) := by decide +kernel
theorem dX5_leastOf_42 : decode cX5_leastOf 42 = .ok (.goto (-31), 3) := by decide +kernel
theorem dX5_leastOf_45 : decode cX5_leastOf 45 = .ok (.aload_n 0, 1) := by decide +kernel
theorem dX5_leastOf_46 : decode cX5_leastOf 46 = .ok (.getfield 38, 3) := by decide +kernel
theorem dX5_leastOf_49 : decode cX5_leastOf 49 = .ok (.iload_n 1, 1) := by decide +kernel
theorem dX5_leastOf_50 : decode cX5_leastOf 50 = .ok (.iconst 1, 1) := by decide +kernel
theorem dX5_leastOf_51 : decode cX5_leastOf 51 = .ok (.iadd, 1) := by decide +kernel
theorem dX5_leastOf_52 : decode cX5_leastOf 52 = .ok (.iload_n 2, 1) := by decide +kernel
theorem dX5_leastOf_53 : decode cX5_leastOf 53 = .ok (.invokevirtual 49, 3) := by decide +kernel
theorem dX5_leastOf_56 : decode cX5_leastOf 56 = .ok (.iload_n 2, 1) := by decide +kernel
theorem dX5_leastOf_57 : decode cX5_leastOf 57 = .ok (.ireturn, 1) := by decide +kernel
set_option maxRecDepth 20000 in
theorem ggX5_isHeld_X6_at : GoodIn wsX5_isHeld wsX6_at := goodIn_r _ [6, 7, 20] (by decide +kernel) (by decide +kernel)
set_option maxRecDepth 20000 in
theorem gX5_isHeld_X6_at : GoodIn wsX5_isHeld (wsV RX5 74 RX6 yX6_at wsX6_at) := goodIn_app (goodIn_of _ (by decide +kernel)) ggX5_isHeld_X6_at
theorem dX5_isHeld_0 : decode cX5_isHeld 0 = .ok (.aload_n 0, 1) := by decide +kernel
theorem dX5_isHeld_1 : decode cX5_isHeld 1 = .ok (.getfield 14, 3) := by decide +kernel
theorem dX5_isHeld_4 : decode cX5_isHeld 4 = .ok (.iload_n 1, 1) := by decide +kernel
theorem dX5_isHeld_5 : decode cX5_isHeld 5 = .ok (.invokevirtual 74, 3) := by decide +kernel
theorem dX5_isHeld_8 : decode cX5_isHeld 8 = .ok (.ifCond .ne 7, 3) := by decide +kernel
theorem dX5_isHeld_11 : decode cX5_isHeld 11 = .ok (.iconst 1, 1) := by decide +kernel
theorem dX5_isHeld_12 : decode cX5_isHeld 12 = .ok (.goto 4, 3) := by decide +kernel
theorem dX5_isHeld_15 : decode cX5_isHeld 15 = .ok (.iconst 0, 1) := by decide +kernel
theorem dX5_isHeld_16 : decode cX5_isHeld 16 = .ok (.ireturn, 1) := by decide +kernel
set_option maxRecDepth 20000 in
theorem ggX5_holderOf_X6_at : GoodIn wsX5_holderOf wsX6_at := goodIn_r _ [6, 7, 20] (by decide +kernel) (by decide +kernel)
set_option maxRecDepth 20000 in
theorem gX5_holderOf_X6_at : GoodIn wsX5_holderOf (wsV RX5 74 RX6 yX6_at wsX6_at) := goodIn_app (goodIn_of _ (by decide +kernel)) ggX5_holderOf_X6_at
theorem dX5_holderOf_0 : decode cX5_holderOf 0 = .ok (.aload_n 0, 1) := by decide +kernel
theorem dX5_holderOf_1 : decode cX5_holderOf 1 = .ok (.getfield 20, 3) := by decide +kernel
theorem dX5_holderOf_4 : decode cX5_holderOf 4 = .ok (.iload_n 1, 1) := by decide +kernel
theorem dX5_holderOf_5 : decode cX5_holderOf 5 = .ok (.invokevirtual 74, 3) := by decide +kernel
theorem dX5_holderOf_8 : decode cX5_holderOf 8 = .ok (.ireturn, 1) := by decide +kernel
set_option maxRecDepth 20000 in
theorem ggX5_projectOf_X6_at : GoodIn wsX5_projectOf wsX6_at := goodIn_r _ [6, 7, 20] (by decide +kernel) (by decide +kernel)
set_option maxRecDepth 20000 in
theorem gX5_projectOf_X6_at : GoodIn wsX5_projectOf (wsV RX5 74 RX6 yX6_at wsX6_at) := goodIn_app (goodIn_of _ (by decide +kernel)) ggX5_projectOf_X6_at
theorem dX5_projectOf_0 : decode cX5_projectOf 0 = .ok (.aload_n 0, 1) := by decide +kernel
theorem dX5_projectOf_1 : decode cX5_projectOf 1 = .ok (.getfield 29, 3) := by decide +kernel
theorem dX5_projectOf_4 : decode cX5_projectOf 4 = .ok (.iload_n 1, 1) := by decide +kernel
theorem dX5_projectOf_5 : decode cX5_projectOf 5 = .ok (.invokevirtual 74, 3) := by decide +kernel
theorem dX5_projectOf_8 : decode cX5_projectOf 8 = .ok (.ireturn, 1) := by decide +kernel
set_option maxRecDepth 20000 in
theorem ggX5_heldBy_X6_at : GoodIn wsX5_heldBy wsX6_at := goodIn_r _ [6, 7, 20] (by decide +kernel) (by decide +kernel)
set_option maxRecDepth 20000 in
theorem gX5_heldBy_X6_at : GoodIn wsX5_heldBy (wsV RX5 74 RX6 yX6_at wsX6_at) := goodIn_app (goodIn_of _ (by decide +kernel)) ggX5_heldBy_X6_at
theorem dX5_heldBy_0 : decode cX5_heldBy 0 = .ok (.aload_n 0, 1) := by decide +kernel
theorem dX5_heldBy_1 : decode cX5_heldBy 1 = .ok (.getfield 35, 3) := by decide +kernel
theorem dX5_heldBy_4 : decode cX5_heldBy 4 = .ok (.iload_n 1, 1) := by decide +kernel
theorem dX5_heldBy_5 : decode cX5_heldBy 5 = .ok (.iconst 1, 1) := by decide +kernel
theorem dX5_heldBy_6 : decode cX5_heldBy 6 = .ok (.iadd, 1) := by decide +kernel
theorem dX5_heldBy_7 : decode cX5_heldBy 7 = .ok (.invokevirtual 74, 3) := by decide +kernel
theorem dX5_heldBy_10 : decode cX5_heldBy 10 = .ok (.ireturn, 1) := by decide +kernel
set_option maxRecDepth 20000 in
theorem ggX5_heldByWorks_X5_heldBy : GoodIn wsX5_heldByWorks wsX5_heldBy := goodIn_r _ [8, 9, 10, 11, 12, 13, 14, 15, 16, 17, 18, 19, 20, 21, 22, 23, 24, 25, 26, 27, 28] (by decide +kernel) (by decide +kernel)
set_option maxRecDepth 20000 in
theorem gX5_heldByWorks_X5_heldBy : GoodIn wsX5_heldByWorks (wsV RX5 90 RX5 yX5_heldBy wsX5_heldBy) := goodIn_app (goodIn_of _ (by decide +kernel)) ggX5_heldByWorks_X5_heldBy
theorem dX5_heldByWorks_0 : decode cX5_heldByWorks 0 = .ok (.aload_n 0, 1) := by decide +kernel
theorem dX5_heldByWorks_1 : decode cX5_heldByWorks 1 = .ok (.getfield 41, 3) := by decide +kernel
theorem dX5_heldByWorks_4 : decode cX5_heldByWorks 4 = .ok (.aload_n 0, 1) := by decide +kernel
theorem dX5_heldByWorks_5 : decode cX5_heldByWorks 5 = .ok (.getfield 77, 3) := by decide +kernel
theorem dX5_heldByWorks_8 : decode cX5_heldByWorks 8 = .ok (.isub, 1) := by decide +kernel
theorem dX5_heldByWorks_9 : decode cX5_heldByWorks 9 = .ok (.aload_n 0, 1) := by decide +kernel
theorem dX5_heldByWorks_10 : decode cX5_heldByWorks 10 = .ok (.getfield 83, 3) := by decide +kernel
theorem dX5_heldByWorks_13 : decode cX5_heldByWorks 13 = .ok (.isub, 1) := by decide +kernel
theorem dX5_heldByWorks_14 : decode cX5_heldByWorks 14 = .ok (.aload_n 0, 1) := by decide +kernel
theorem dX5_heldByWorks_15 : decode cX5_heldByWorks 15 = .ok (.iconst (-1), 1) := by decide +kernel
theorem dX5_heldByWorks_16 : decode cX5_heldByWorks 16 = .ok (.invokevirtual 90, 3) := by decide +kernel
theorem dX5_heldByWorks_19 : decode cX5_heldByWorks 19 = .ok (.isub, 1) := by decide +kernel
theorem dX5_heldByWorks_20 : decode cX5_heldByWorks 20 = .ok (.ireturn, 1) := by decide +kernel
theorem dX5_cameSoFar_0 : decode cX5_cameSoFar 0 = .ok (.aload_n 0, 1) := by decide +kernel
theorem dX5_cameSoFar_1 : decode cX5_cameSoFar 1 = .ok (.getfield 41, 3) := by decide +kernel
theorem dX5_cameSoFar_4 : decode cX5_cameSoFar 4 = .ok (.ireturn, 1) := by decide +kernel
theorem dX5_usedSoFar_0 : decode cX5_usedSoFar 0 = .ok (.aload_n 0, 1) := by decide +kernel
theorem dX5_usedSoFar_1 : decode cX5_usedSoFar 1 = .ok (.getfield 77, 3) := by decide +kernel
theorem dX5_usedSoFar_4 : decode cX5_usedSoFar 4 = .ok (.ireturn, 1) := by decide +kernel
theorem dX5_cancelledSoFar_0 : decode cX5_cancelledSoFar 0 = .ok (.aload_n 0, 1) := by decide +kernel
theorem dX5_cancelledSoFar_1 : decode cX5_cancelledSoFar 1 = .ok (.getfield 83, 3) := by decide +kernel
theorem dX5_cancelledSoFar_4 : decode cX5_cancelledSoFar 4 = .ok (.ireturn, 1) := by decide +kernel
set_option maxRecDepth 20000 in
theorem ggX5_fact_X6_at : GoodIn wsX5_fact wsX6_at := goodIn_r _ [12, 13, 26] (by decide +kernel) (by decide +kernel)
set_option maxRecDepth 20000 in
theorem gX5_fact_X6_at : GoodIn wsX5_fact (wsV RX5 74 RX6 yX6_at wsX6_at) := goodIn_app (goodIn_of _ (by decide +kernel)) ggX5_fact_X6_at
theorem dX5_fact_0 : decode cX5_fact 0 = .ok (.iload_n 2, 1) := by decide +kernel
theorem dX5_fact_1 : decode cX5_fact 1 = .ok (.tableswitch 93 0 5 #[39, 48, 57, 66, 75, 84], 39) := by decide +kernel
theorem dX5_fact_40 : decode cX5_fact 40 = .ok (.aload_n 0, 1) := by decide +kernel
theorem dX5_fact_41 : decode cX5_fact 41 = .ok (.getfield 14, 3) := by decide +kernel
theorem dX5_fact_44 : decode cX5_fact 44 = .ok (.iload_n 1, 1) := by decide +kernel
theorem dX5_fact_45 : decode cX5_fact 45 = .ok (.invokevirtual 74, 3) := by decide +kernel
theorem dX5_fact_48 : decode cX5_fact 48 = .ok (.ireturn, 1) := by decide +kernel
theorem dX5_fact_49 : decode cX5_fact 49 = .ok (.aload_n 0, 1) := by decide +kernel
theorem dX5_fact_50 : decode cX5_fact 50 = .ok (.getfield 20, 3) := by decide +kernel
theorem dX5_fact_53 : decode cX5_fact 53 = .ok (.iload_n 1, 1) := by decide +kernel
theorem dX5_fact_54 : decode cX5_fact 54 = .ok (.invokevirtual 74, 3) := by decide +kernel
theorem dX5_fact_57 : decode cX5_fact 57 = .ok (.ireturn, 1) := by decide +kernel
theorem dX5_fact_58 : decode cX5_fact 58 = .ok (.aload_n 0, 1) := by decide +kernel
theorem dX5_fact_59 : decode cX5_fact 59 = .ok (.getfield 23, 3) := by decide +kernel
theorem dX5_fact_62 : decode cX5_fact 62 = .ok (.iload_n 1, 1) := by decide +kernel
theorem dX5_fact_63 : decode cX5_fact 63 = .ok (.invokevirtual 74, 3) := by decide +kernel
theorem dX5_fact_66 : decode cX5_fact 66 = .ok (.ireturn, 1) := by decide +kernel
theorem dX5_fact_67 : decode cX5_fact 67 = .ok (.aload_n 0, 1) := by decide +kernel
theorem dX5_fact_68 : decode cX5_fact 68 = .ok (.getfield 26, 3) := by decide +kernel
theorem dX5_fact_71 : decode cX5_fact 71 = .ok (.iload_n 1, 1) := by decide +kernel
theorem dX5_fact_72 : decode cX5_fact 72 = .ok (.invokevirtual 74, 3) := by decide +kernel
theorem dX5_fact_75 : decode cX5_fact 75 = .ok (.ireturn, 1) := by decide +kernel
theorem dX5_fact_76 : decode cX5_fact 76 = .ok (.aload_n 0, 1) := by decide +kernel
theorem dX5_fact_77 : decode cX5_fact 77 = .ok (.getfield 29, 3) := by decide +kernel
theorem dX5_fact_80 : decode cX5_fact 80 = .ok (.iload_n 1, 1) := by decide +kernel
theorem dX5_fact_81 : decode cX5_fact 81 = .ok (.invokevirtual 74, 3) := by decide +kernel
theorem dX5_fact_84 : decode cX5_fact 84 = .ok (.ireturn, 1) := by decide +kernel
theorem dX5_fact_85 : decode cX5_fact 85 = .ok (.aload_n 0, 1) := by decide +kernel
theorem dX5_fact_86 : decode cX5_fact 86 = .ok (.getfield 32, 3) := by decide +kernel
theorem dX5_fact_89 : decode cX5_fact 89 = .ok (.iload_n 1, 1) := by decide +kernel
theorem dX5_fact_90 : decode cX5_fact 90 = .ok (.invokevirtual 74, 3) := by decide +kernel
theorem dX5_fact_93 : decode cX5_fact 93 = .ok (.ireturn, 1) := by decide +kernel
theorem dX5_fact_94 : decode cX5_fact 94 = .ok (.ldc 93, 2) := by decide +kernel
theorem dX5_fact_96 : decode cX5_fact 96 = .ok (.ireturn, 1) := by decide +kernel
set_option maxRecDepth 20000 in
theorem ggX6_init_J7_fill_53178 : GoodIn wsX6_init wsJ7_fill_53178 := goodIn_r _ [13] (by decide +kernel) (by decide +kernel)
set_option maxRecDepth 20000 in
theorem gX6_init_J7_fill_53178 : GoodIn wsX6_init (va_wsS RX6 19 yJ7_fill_53178 wsJ7_fill_53178) := goodIn_app (goodIn_of _ (by decide +kernel)) ggX6_init_J7_fill_53178
theorem dX6_init_0 : decode cX6_init 0 = .ok (.aload_n 0, 1) := by decide +kernel
theorem dX6_init_1 : decode cX6_init 1 = .ok (.invokespecial 1, 3) := by decide +kernel
theorem dX6_init_4 : decode cX6_init 4 = .ok (.aload_n 0, 1) := by decide +kernel
theorem dX6_init_5 : decode cX6_init 5 = .ok (.iconst 0, 1) := by decide +kernel
theorem dX6_init_6 : decode cX6_init 6 = .ok (.iload_n 1, 1) := by decide +kernel
theorem dX6_init_7 : decode cX6_init 7 = .ok (.invokestatic 7, 3) := by decide +kernel
theorem dX6_init_10 : decode cX6_init 10 = .ok (.newarray .int, 2) := by decide +kernel
theorem dX6_init_12 : decode cX6_init 12 = .ok (.putfield 13, 3) := by decide +kernel
theorem dX6_init_15 : decode cX6_init 15 = .ok (.aload_n 0, 1) := by decide +kernel
theorem dX6_init_16 : decode cX6_init 16 = .ok (.getfield 13, 3) := by decide +kernel
theorem dX6_init_19 : decode cX6_init 19 = .ok (.iload_n 2, 1) := by decide +kernel
theorem dX6_init_20 : decode cX6_init 20 = .ok (.invokestatic 19, 3) := by decide +kernel
theorem dX6_init_23 : decode cX6_init 23 = .ok (.return_, 1) := by decide +kernel
theorem dX6_at_0 : decode cX6_at 0 = .ok (.iload_n 1, 1) := by decide +kernel
theorem dX6_at_1 : decode cX6_at 1 = .ok (.ifCond .lt 21, 3) := by decide +kernel
theorem dX6_at_4 : decode cX6_at 4 = .ok (.iload_n 1, 1) := by decide +kernel
theorem dX6_at_5 : decode cX6_at 5 = .ok (.aload_n 0, 1) := by decide +kernel
theorem dX6_at_6 : decode cX6_at 6 = .ok (.getfield 13, 3) := by decide +kernel
theorem dX6_at_9 : decode cX6_at 9 = .ok (.arraylength, 1) := by decide +kernel
theorem dX6_at_10 : decode cX6_at 10 = .ok (.if_icmp .ge 12, 3) := by decide +kernel
theorem dX6_at_13 : decode cX6_at 13 = .ok (.aload_n 0, 1) := by decide +kernel
theorem dX6_at_14 : decode cX6_at 14 = .ok (.getfield 13, 3) := by decide +kernel
theorem dX6_at_17 : decode cX6_at 17 = .ok (.iload_n 1, 1) := by decide +kernel
theorem dX6_at_18 : decode cX6_at 18 = .ok (.iaload, 1) := by decide +kernel
theorem dX6_at_19 : decode cX6_at 19 = .ok (.goto 4, 3) := by decide +kernel
theorem dX6_at_22 : decode cX6_at 22 = .ok (.iconst 0, 1) := by decide +kernel
theorem dX6_at_23 : decode cX6_at 23 = .ok (.ireturn, 1) := by decide +kernel
theorem dX6_put_0 : decode cX6_put 0 = .ok (.iload_n 1, 1) := by decide +kernel
theorem dX6_put_1 : decode cX6_put 1 = .ok (.ifCond .lt 19, 3) := by decide +kernel
theorem dX6_put_4 : decode cX6_put 4 = .ok (.iload_n 1, 1) := by decide +kernel
theorem dX6_put_5 : decode cX6_put 5 = .ok (.aload_n 0, 1) := by decide +kernel
theorem dX6_put_6 : decode cX6_put 6 = .ok (.getfield 13, 3) := by decide +kernel
theorem dX6_put_9 : decode cX6_put 9 = .ok (.arraylength, 1) := by decide +kernel
theorem dX6_put_10 : decode cX6_put 10 = .ok (.if_icmp .ge 10, 3) := by decide +kernel
theorem dX6_put_13 : decode cX6_put 13 = .ok (.aload_n 0, 1) := by decide +kernel
theorem dX6_put_14 : decode cX6_put 14 = .ok (.getfield 13, 3) := by decide +kernel
theorem dX6_put_17 : decode cX6_put 17 = .ok (.iload_n 1, 1) := by decide +kernel
theorem dX6_put_18 : decode cX6_put 18 = .ok (.iload_n 2, 1) := by decide +kernel
theorem dX6_put_19 : decode cX6_put 19 = .ok (.iastore, 1) := by decide +kernel
theorem dX6_put_20 : decode cX6_put 20 = .ok (.return_, 1) := by decide +kernel
set_option maxRecDepth 20000 in
theorem ggX6_add_X6_at : GoodIn wsX6_add wsX6_at := goodIn_r _ [5, 6, 11] (by decide +kernel) (by decide +kernel)
set_option maxRecDepth 20000 in
theorem gX6_add_X6_at : GoodIn wsX6_add (wsV RX6 25 RX6 yX6_at wsX6_at) := goodIn_app (goodIn_of _ (by decide +kernel)) ggX6_add_X6_at
set_option maxRecDepth 20000 in
theorem ggX6_add_X6_put : GoodIn wsX6_add wsX6_put := goodIn_r _ [10, 6, 11] (by decide +kernel) (by decide +kernel)
set_option maxRecDepth 20000 in
theorem gX6_add_X6_put : GoodIn wsX6_add (wsV RX6 29 RX6 yX6_put wsX6_put) := goodIn_app (goodIn_of _ (by decide +kernel)) ggX6_add_X6_put
theorem dX6_add_0 : decode cX6_add 0 = .ok (.aload_n 0, 1) := by decide +kernel
theorem dX6_add_1 : decode cX6_add 1 = .ok (.iload_n 1, 1) := by decide +kernel
theorem dX6_add_2 : decode cX6_add 2 = .ok (.aload_n 0, 1) := by decide +kernel
theorem dX6_add_3 : decode cX6_add 3 = .ok (.iload_n 1, 1) := by decide +kernel
theorem dX6_add_4 : decode cX6_add 4 = .ok (.invokevirtual 25, 3) := by decide +kernel
theorem dX6_add_7 : decode cX6_add 7 = .ok (.iload_n 2, 1) := by decide +kernel
theorem dX6_add_8 : decode cX6_add 8 = .ok (.iadd, 1) := by decide +kernel
theorem dX6_add_9 : decode cX6_add 9 = .ok (.invokevirtual 29, 3) := by decide +kernel
theorem dX6_add_12 : decode cX6_add 12 = .ok (.return_, 1) := by decide +kernel
set_option maxRecDepth 20000 in
theorem ggX6_widen_J7_copyOf_59c91 : GoodIn wsX6_widen wsJ7_copyOf_59c91 := goodIn_r _ [5, 6, 7, 8, 9, 10, 11, 12, 13, 14, 15, 16, 17, 18, 19, 20] (by decide +kernel) (by decide +kernel)
set_option maxRecDepth 20000 in
theorem gX6_widen_J7_copyOf_59c91 : GoodIn wsX6_widen (va_wsS RX6 33 yJ7_copyOf_59c91 wsJ7_copyOf_59c91) := goodIn_app (goodIn_of _ (by decide +kernel)) ggX6_widen_J7_copyOf_59c91
theorem dX6_widen_0 : decode cX6_widen 0 = .ok (.iload_n 1, 1) := by decide +kernel
theorem dX6_widen_1 : decode cX6_widen 1 = .ok (.aload_n 0, 1) := by decide +kernel
theorem dX6_widen_2 : decode cX6_widen 2 = .ok (.getfield 13, 3) := by decide +kernel
theorem dX6_widen_5 : decode cX6_widen 5 = .ok (.arraylength, 1) := by decide +kernel
theorem dX6_widen_6 : decode cX6_widen 6 = .ok (.if_icmp .le 15, 3) := by decide +kernel
theorem dX6_widen_9 : decode cX6_widen 9 = .ok (.aload_n 0, 1) := by decide +kernel
theorem dX6_widen_10 : decode cX6_widen 10 = .ok (.aload_n 0, 1) := by decide +kernel
theorem dX6_widen_11 : decode cX6_widen 11 = .ok (.getfield 13, 3) := by decide +kernel
theorem dX6_widen_14 : decode cX6_widen 14 = .ok (.iload_n 1, 1) := by decide +kernel
theorem dX6_widen_15 : decode cX6_widen 15 = .ok (.invokestatic 33, 3) := by decide +kernel
theorem dX6_widen_18 : decode cX6_widen 18 = .ok (.putfield 13, 3) := by decide +kernel
theorem dX6_widen_21 : decode cX6_widen 21 = .ok (.return_, 1) := by decide +kernel
set_option maxRecDepth 20000 in
theorem ggX6_squeeze_X6_at : GoodIn wsX6_squeeze wsX6_at := goodIn_r _ [5, 6, 11] (by decide +kernel) (by decide +kernel)
set_option maxRecDepth 20000 in
theorem gX6_squeeze_X6_at : GoodIn wsX6_squeeze (wsV RX6 25 RX6 yX6_at wsX6_at) := goodIn_app (goodIn_of _ (by decide +kernel)) ggX6_squeeze_X6_at
set_option maxRecDepth 20000 in
theorem ggX6_squeeze_X6_put : GoodIn wsX6_squeeze wsX6_put := goodIn_r _ [10, 6, 11] (by decide +kernel) (by decide +kernel)
set_option maxRecDepth 20000 in
theorem gX6_squeeze_X6_put : GoodIn wsX6_squeeze (wsV RX6 29 RX6 yX6_put wsX6_put) := goodIn_app (goodIn_of _ (by decide +kernel)) ggX6_squeeze_X6_put
theorem dX6_squeeze_0 : decode cX6_squeeze 0 = .ok (.iload_n 2, 1) := by decide +kernel
theorem dX6_squeeze_1 : decode cX6_squeeze 1 = .ok (.istore 4, 2) := by decide +kernel
theorem dX6_squeeze_3 : decode cX6_squeeze 3 = .ok (.iload 4, 2) := by decide +kernel
theorem dX6_squeeze_5 : decode cX6_squeeze 5 = .ok (.iload_n 1, 1) := by decide +kernel
theorem dX6_squeeze_6 : decode cX6_squeeze 6 = .ok (.if_icmp .le 23, 3) := by decide +kernel
theorem dX6_squeeze_9 : decode cX6_squeeze 9 = .ok (.aload_n 0, 1) := by decide +kernel
theorem dX6_squeeze_10 : decode cX6_squeeze 10 = .ok (.iload 4, 2) := by decide +kernel
theorem dX6_squeeze_12 : decode cX6_squeeze 12 = .ok (.aload_n 0, 1) := by decide +kernel
theorem dX6_squeeze_13 : decode cX6_squeeze 13 = .ok (.iload 4, 2) := by decide +kernel
theorem dX6_squeeze_15 : decode cX6_squeeze 15 = .ok (.iconst 1, 1) := by decide +kernel
theorem dX6_squeeze_16 : decode cX6_squeeze 16 = .ok (.isub, 1) := by decide +kernel
theorem dX6_squeeze_17 : decode cX6_squeeze 17 = .ok (.invokevirtual 25, 3) := by decide +kernel
theorem dX6_squeeze_20 : decode cX6_squeeze 20 = .ok (.invokevirtual 29, 3) := by decide +kernel
theorem dX6_squeeze_23 : decode cX6_squeeze 23 = .ok (.iinc 4 (-1), 3) := by decide +kernel
theorem dX6_squeeze_26 : decode cX6_squeeze 26 = .ok (.goto (-23), 3) := by decide +kernel
theorem dX6_squeeze_29 : decode cX6_squeeze 29 = .ok (.aload_n 0, 1) := by decide +kernel
theorem dX6_squeeze_30 : decode cX6_squeeze 30 = .ok (.iload_n 1, 1) := by decide +kernel
theorem dX6_squeeze_31 : decode cX6_squeeze 31 = .ok (.iload_n 3, 1) := by decide +kernel
theorem dX6_squeeze_32 : decode cX6_squeeze 32 = .ok (.invokevirtual 29, 3) := by decide +kernel
theorem dX6_squeeze_35 : decode cX6_squeeze 35 = .ok (.return_, 1) := by decide +kernel
set_option maxRecDepth 20000 in
theorem ggX7_init_X6_init : GoodIn wsX7_init wsX6_init := goodIn_r _ [15, 16, 2, 3, 17, 18, 19, 20, 21, 22, 23, 24, 25, 26, 27] (by decide +kernel) (by decide +kernel)
set_option maxRecDepth 20000 in
theorem gX7_init_X6_init : GoodIn wsX7_init (wsX6_init) := ggX7_init_X6_init
theorem dX7_init_0 : decode cX7_init 0 = .ok (.aload_n 0, 1) := by decide +kernel
theorem dX7_init_1 : decode cX7_init 1 = .ok (.invokespecial 3, 3) := by decide +kernel
theorem dX7_init_4 : decode cX7_init 4 = .ok (.aload_n 0, 1) := by decide +kernel
theorem dX7_init_5 : decode cX7_init 5 = .ok (.new 9, 3) := by decide +kernel
theorem dX7_init_8 : decode cX7_init 8 = .ok (.dup, 1) := by decide +kernel
theorem dX7_init_9 : decode cX7_init 9 = .ok (.bipush 30, 2) := by decide +kernel
theorem dX7_init_11 : decode cX7_init 11 = .ok (.iconst 0, 1) := by decide +kernel
theorem dX7_init_12 : decode cX7_init 12 = .ok (.invokespecial 11, 3) := by decide +kernel
theorem dX7_init_15 : decode cX7_init 15 = .ok (.putfield 14, 3) := by decide +kernel
theorem dX7_init_18 : decode cX7_init 18 = .ok (.aload_n 0, 1) := by decide +kernel
theorem dX7_init_19 : decode cX7_init 19 = .ok (.new 9, 3) := by decide +kernel
theorem dX7_init_22 : decode cX7_init 22 = .ok (.dup, 1) := by decide +kernel
theorem dX7_init_23 : decode cX7_init 23 = .ok (.bipush 30, 2) := by decide +kernel
theorem dX7_init_25 : decode cX7_init 25 = .ok (.iconst 0, 1) := by decide +kernel
theorem dX7_init_26 : decode cX7_init 26 = .ok (.invokespecial 11, 3) := by decide +kernel
theorem dX7_init_29 : decode cX7_init 29 = .ok (.putfield 20, 3) := by decide +kernel
theorem dX7_init_32 : decode cX7_init 32 = .ok (.aload_n 0, 1) := by decide +kernel
theorem dX7_init_33 : decode cX7_init 33 = .ok (.new 9, 3) := by decide +kernel
theorem dX7_init_36 : decode cX7_init 36 = .ok (.dup, 1) := by decide +kernel
theorem dX7_init_37 : decode cX7_init 37 = .ok (.bipush 30, 2) := by decide +kernel
theorem dX7_init_39 : decode cX7_init 39 = .ok (.iconst 0, 1) := by decide +kernel
theorem dX7_init_40 : decode cX7_init 40 = .ok (.invokespecial 11, 3) := by decide +kernel
theorem dX7_init_43 : decode cX7_init 43 = .ok (.putfield 23, 3) := by decide +kernel
theorem dX7_init_46 : decode cX7_init 46 = .ok (.aload_n 0, 1) := by decide +kernel
theorem dX7_init_47 : decode cX7_init 47 = .ok (.new 9, 3) := by decide +kernel
theorem dX7_init_50 : decode cX7_init 50 = .ok (.dup, 1) := by decide +kernel
theorem dX7_init_51 : decode cX7_init 51 = .ok (.bipush 30, 2) := by decide +kernel
theorem dX7_init_53 : decode cX7_init 53 = .ok (.iconst 0, 1) := by decide +kernel
theorem dX7_init_54 : decode cX7_init 54 = .ok (.invokespecial 11, 3) := by decide +kernel
theorem dX7_init_57 : decode cX7_init 57 = .ok (.putfield 26, 3) := by decide +kernel
theorem dX7_init_60 : decode cX7_init 60 = .ok (.aload_n 0, 1) := by decide +kernel
theorem dX7_init_61 : decode cX7_init 61 = .ok (.new 9, 3) := by decide +kernel
theorem dX7_init_64 : decode cX7_init 64 = .ok (.dup, 1) := by decide +kernel
theorem dX7_init_65 : decode cX7_init 65 = .ok (.bipush 30, 2) := by decide +kernel
theorem dX7_init_67 : decode cX7_init 67 = .ok (.iconst 0, 1) := by decide +kernel
theorem dX7_init_68 : decode cX7_init 68 = .ok (.invokespecial 11, 3) := by decide +kernel
theorem dX7_init_71 : decode cX7_init 71 = .ok (.putfield 29, 3) := by decide +kernel
theorem dX7_init_74 : decode cX7_init 74 = .ok (.aload_n 0, 1) := by decide +kernel
theorem dX7_init_75 : decode cX7_init 75 = .ok (.new 9, 3) := by decide +kernel
theorem dX7_init_78 : decode cX7_init 78 = .ok (.dup, 1) := by decide +kernel
theorem dX7_init_79 : decode cX7_init 79 = .ok (.bipush 30, 2) := by decide +kernel
theorem dX7_init_81 : decode cX7_init 81 = .ok (.iconst 0, 1) := by decide +kernel
theorem dX7_init_82 : decode cX7_init 82 = .ok (.invokespecial 11, 3) := by decide +kernel
theorem dX7_init_85 : decode cX7_init 85 = .ok (.putfield 32, 3) := by decide +kernel
theorem dX7_init_88 : decode cX7_init 88 = .ok (.return_, 1) := by decide +kernel
set_option maxRecDepth 20000 in
theorem ggX7_tell_X6_put : GoodIn wsX7_tell wsX6_put := goodIn_r _ [13, 14, 22] (by decide +kernel) (by decide +kernel)
set_option maxRecDepth 20000 in
theorem gX7_tell_X6_put : GoodIn wsX7_tell (wsV RX7 40 RX6 yX6_put wsX6_put) := goodIn_app (goodIn_of _ (by decide +kernel)) ggX7_tell_X6_put
theorem dX7_tell_0 : decode cX7_tell 0 = .ok (.iload_n 2, 1) := by decide +kernel
theorem dX7_tell_1 : decode cX7_tell 1 = .ok (.sipush 1000, 3) := by decide +kernel
theorem dX7_tell_4 : decode cX7_tell 4 = .ok (.idiv, 1) := by decide +kernel
theorem dX7_tell_5 : decode cX7_tell 5 = .ok (.istore 4, 2) := by decide +kernel
theorem dX7_tell_7 : decode cX7_tell 7 = .ok (.iload_n 2, 1) := by decide +kernel
theorem dX7_tell_8 : decode cX7_tell 8 = .ok (.sipush 1000, 3) := by decide +kernel
theorem dX7_tell_11 : decode cX7_tell 11 = .ok (.irem, 1) := by decide +kernel
theorem dX7_tell_12 : decode cX7_tell 12 = .ok (.istore 5, 2) := by decide +kernel
theorem dX7_tell_14 : decode cX7_tell 14 = .ok (.iload_n 3, 1) := by decide +kernel
theorem dX7_tell_15 : decode cX7_tell 15 = .ok (.ldc 35, 2) := by decide +kernel
theorem dX7_tell_17 : decode cX7_tell 17 = .ok (.idiv, 1) := by decide +kernel
theorem dX7_tell_18 : decode cX7_tell 18 = .ok (.istore 6, 2) := by decide +kernel
theorem dX7_tell_20 : decode cX7_tell 20 = .ok (.aload_n 0, 1) := by decide +kernel
theorem dX7_tell_21 : decode cX7_tell 21 = .ok (.getfield 36, 3) := by decide +kernel
theorem dX7_tell_24 : decode cX7_tell 24 = .ok (.bipush 30, 2) := by decide +kernel
theorem dX7_tell_26 : decode cX7_tell 26 = .ok (.if_icmp .ge 25, 3) := by decide +kernel
theorem dX7_tell_29 : decode cX7_tell 29 = .ok (.iload 4, 2) := by decide +kernel
theorem dX7_tell_31 : decode cX7_tell 31 = .ok (.sipush 400, 3) := by decide +kernel
theorem dX7_tell_34 : decode cX7_tell 34 = .ok (.if_icmp .gt 17, 3) := by decide +kernel
theorem dX7_tell_37 : decode cX7_tell 37 = .ok (.iload 5, 2) := by decide +kernel
theorem dX7_tell_39 : decode cX7_tell 39 = .ok (.bipush 100, 2) := by decide +kernel
theorem dX7_tell_41 : decode cX7_tell 41 = .ok (.if_icmp .gt 10, 3) := by decide +kernel
theorem dX7_tell_44 : decode cX7_tell 44 = .ok (.iload 6, 2) := by decide +kernel
theorem dX7_tell_46 : decode cX7_tell 46 = .ok (.bipush 100, 2) := by decide +kernel
theorem dX7_tell_48 : decode cX7_tell 48 = .ok (.if_icmp .le 5, 3) := by decide +kernel
theorem dX7_tell_51 : decode cX7_tell 51 = .ok (.iconst 0, 1) := by decide +kernel
theorem dX7_tell_52 : decode cX7_tell 52 = .ok (.ireturn, 1) := by decide +kernel
theorem dX7_tell_53 : decode cX7_tell 53 = .ok (.aload_n 0, 1) := by decide +kernel
theorem dX7_tell_54 : decode cX7_tell 54 = .ok (.getfield 14, 3) := by decide +kernel
theorem dX7_tell_57 : decode cX7_tell 57 = .ok (.aload_n 0, 1) := by decide +kernel
theorem dX7_tell_58 : decode cX7_tell 58 = .ok (.getfield 36, 3) := by decide +kernel
theorem dX7_tell_61 : decode cX7_tell 61 = .ok (.iload_n 1, 1) := by decide +kernel
theorem dX7_tell_62 : decode cX7_tell 62 = .ok (.invokevirtual 40, 3) := by decide +kernel
theorem dX7_tell_65 : decode cX7_tell 65 = .ok (.aload_n 0, 1) := by decide +kernel
theorem dX7_tell_66 : decode cX7_tell 66 = .ok (.getfield 20, 3) := by decide +kernel
theorem dX7_tell_69 : decode cX7_tell 69 = .ok (.aload_n 0, 1) := by decide +kernel
theorem dX7_tell_70 : decode cX7_tell 70 = .ok (.getfield 36, 3) := by decide +kernel
theorem dX7_tell_73 : decode cX7_tell 73 = .ok (.iload 4, 2) := by decide +kernel
theorem dX7_tell_75 : decode cX7_tell 75 = .ok (.invokevirtual 40, 3) := by decide +kernel
theorem dX7_tell_78 : decode cX7_tell 78 = .ok (.aload_n 0, 1) := by decide +kernel
theorem dX7_tell_79 : decode cX7_tell 79 = .ok (.getfield 23, 3) := by decide +kernel
theorem dX7_tell_82 : decode cX7_tell 82 = .ok (.aload_n 0, 1) := by decide +kernel
theorem dX7_tell_83 : decode cX7_tell 83 = .ok (.getfield 36, 3) := by decide +kernel
theorem dX7_tell_86 : decode cX7_tell 86 = .ok (.iload 5, 2) := by decide +kernel
theorem dX7_tell_88 : decode cX7_tell 88 = .ok (.invokevirtual 40, 3) := by decide +kernel
theorem dX7_tell_91 : decode cX7_tell 91 = .ok (.aload_n 0, 1) := by decide +kernel
theorem dX7_tell_92 : decode cX7_tell 92 = .ok (.getfield 26, 3) := by decide +kernel
theorem dX7_tell_95 : decode cX7_tell 95 = .ok (.aload_n 0, 1) := by decide +kernel
