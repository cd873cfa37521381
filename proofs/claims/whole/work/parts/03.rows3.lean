theorem dX9_ruled_80 : decode cX9_ruled 80 = .ok (.ireturn, 1) := by decide +kernel
theorem dX9_ruled_81 : decode cX9_ruled 81 = .ok (.iconst (-1), 1) := by decide +kernel
theorem dX9_ruled_82 : decode cX9_ruled 82 = .ok (.ireturn, 1) := by decide +kernel
set_option maxRecDepth 20000 in
theorem ggX9_meter_X9_isWorks : GoodIn wsX9_meter wsX9_isWorks := goodIn_r _ [7, 8, 9, 10, 6, 11, 12, 13, 14, 15, 16, 17, 18, 19, 20, 21, 22, 23, 24, 25, 26, 27, 28, 29, 30, 31, 32, 33, 34, 35, 36, 37, 38, 39, 40, 41, 42, 43, 44, 45] (by decide +kernel) (by decide +kernel)
set_option maxRecDepth 20000 in
theorem gX9_meter_X9_isWorks : GoodIn wsX9_meter (wsV RX9 109 RX9 yX9_isWorks wsX9_isWorks) := goodIn_app (goodIn_of _ (by decide +kernel)) ggX9_meter_X9_isWorks
set_option maxRecDepth 20000 in
theorem ggX9_meter_X9_in : GoodIn wsX9_meter wsX9_in := goodIn_r _ [11] (by decide +kernel) (by decide +kernel)
set_option maxRecDepth 20000 in
theorem gX9_meter_X9_in : GoodIn wsX9_meter (va_wsS RX9 90 yX9_in wsX9_in) := goodIn_app (goodIn_of _ (by decide +kernel)) ggX9_meter_X9_in
theorem dX9_meter_0 : decode cX9_meter 0 = .ok (.aload_n 0, 1) := by decide +kernel
theorem dX9_meter_1 : decode cX9_meter 1 = .ok (.iload_n 1, 1) := by decide +kernel
theorem dX9_meter_2 : decode cX9_meter 2 = .ok (.invokevirtual 109, 3) := by decide +kernel
theorem dX9_meter_5 : decode cX9_meter 5 = .ok (.ifCond .eq 49, 3) := by decide +kernel
theorem dX9_meter_8 : decode cX9_meter 8 = .ok (.iload_n 2, 1) := by decide +kernel
theorem dX9_meter_9 : decode cX9_meter 9 = .ok (.iconst 0, 1) := by decide +kernel
theorem dX9_meter_10 : decode cX9_meter 10 = .ok (.aload_n 0, 1) := by decide +kernel
theorem dX9_meter_11 : decode cX9_meter 11 = .ok (.getfield 113, 3) := by decide +kernel
theorem dX9_meter_14 : decode cX9_meter 14 = .ok (.bipush 20, 2) := by decide +kernel
theorem dX9_meter_16 : decode cX9_meter 16 = .ok (.if_icmp .ge 10, 3) := by decide +kernel
theorem dX9_meter_19 : decode cX9_meter 19 = .ok (.aload_n 0, 1) := by decide +kernel
theorem dX9_meter_20 : decode cX9_meter 20 = .ok (.getfield 113, 3) := by decide +kernel
theorem dX9_meter_23 : decode cX9_meter 23 = .ok (.goto 5, 3) := by decide +kernel
theorem dX9_meter_26 : decode cX9_meter 26 = .ok (.bipush 19, 2) := by decide +kernel
theorem dX9_meter_28 : decode cX9_meter 28 = .ok (.invokestatic 90, 3) := by decide +kernel
theorem dX9_meter_31 : decode cX9_meter 31 = .ok (.ifCond .eq 23, 3) := by decide +kernel
theorem dX9_meter_34 : decode cX9_meter 34 = .ok (.iload_n 3, 1) := by decide +kernel
theorem dX9_meter_35 : decode cX9_meter 35 = .ok (.iconst 0, 1) := by decide +kernel
theorem dX9_meter_36 : decode cX9_meter 36 = .ok (.iconst 3, 1) := by decide +kernel
theorem dX9_meter_37 : decode cX9_meter 37 = .ok (.invokestatic 90, 3) := by decide +kernel
theorem dX9_meter_40 : decode cX9_meter 40 = .ok (.ifCond .eq 14, 3) := by decide +kernel
theorem dX9_meter_43 : decode cX9_meter 43 = .ok (.iload 4, 2) := by decide +kernel
theorem dX9_meter_45 : decode cX9_meter 45 = .ok (.iconst (-1), 1) := by decide +kernel
theorem dX9_meter_46 : decode cX9_meter 46 = .ok (.bipush 99, 2) := by decide +kernel
theorem dX9_meter_48 : decode cX9_meter 48 = .ok (.invokestatic 90, 3) := by decide +kernel
theorem dX9_meter_51 : decode cX9_meter 51 = .ok (.ifCond .ne 5, 3) := by decide +kernel
theorem dX9_meter_54 : decode cX9_meter 54 = .ok (.iconst 0, 1) := by decide +kernel
theorem dX9_meter_55 : decode cX9_meter 55 = .ok (.ireturn, 1) := by decide +kernel
theorem dX9_meter_56 : decode cX9_meter 56 = .ok (.aload_n 0, 1) := by decide +kernel
theorem dX9_meter_57 : decode cX9_meter 57 = .ok (.getfield 19, 3) := by decide +kernel
theorem dX9_meter_60 : decode cX9_meter 60 = .ok (.iconst 4, 1) := by decide +kernel
theorem dX9_meter_61 : decode cX9_meter 61 = .ok (.bipush 20, 2) := by decide +kernel
theorem dX9_meter_63 : decode cX9_meter 63 = .ok (.iload_n 1, 1) := by decide +kernel
theorem dX9_meter_64 : decode cX9_meter 64 = .ok (.imul, 1) := by decide +kernel
theorem dX9_meter_65 : decode cX9_meter 65 = .ok (.iload_n 2, 1) := by decide +kernel
theorem dX9_meter_66 : decode cX9_meter 66 = .ok (.iadd, 1) := by decide +kernel
theorem dX9_meter_67 : decode cX9_meter 67 = .ok (.imul, 1) := by decide +kernel
theorem dX9_meter_68 : decode cX9_meter 68 = .ok (.iload_n 3, 1) := by decide +kernel
theorem dX9_meter_69 : decode cX9_meter 69 = .ok (.iadd, 1) := by decide +kernel
theorem dX9_meter_70 : decode cX9_meter 70 = .ok (.iload 4, 2) := by decide +kernel
theorem dX9_meter_72 : decode cX9_meter 72 = .ok (.iastore, 1) := by decide +kernel
theorem dX9_meter_73 : decode cX9_meter 73 = .ok (.iconst 1, 1) := by decide +kernel
theorem dX9_meter_74 : decode cX9_meter 74 = .ok (.ireturn, 1) := by decide +kernel
theorem dX9_greatest_0 : decode cX9_greatest 0 = .ok (.iconst (-1), 1) := by decide +kernel
theorem dX9_greatest_1 : decode cX9_greatest 1 = .ok (.istore_n 3, 1) := by decide +kernel
theorem dX9_greatest_2 : decode cX9_greatest 2 = .ok (.iload_n 2, 1) := by decide +kernel
theorem dX9_greatest_3 : decode cX9_greatest 3 = .ok (.ifCond .le 9, 3) := by decide +kernel
theorem dX9_greatest_6 : decode cX9_greatest 6 = .ok (.iload_n 2, 1) := by decide +kernel
theorem dX9_greatest_7 : decode cX9_greatest 7 = .ok (.iconst 1, 1) := by decide +kernel
theorem dX9_greatest_8 : decode cX9_greatest 8 = .ok (.isub, 1) := by decide +kernel
theorem dX9_greatest_9 : decode cX9_greatest 9 = .ok (.goto 4, 3) := by decide +kernel
theorem dX9_greatest_12 : decode cX9_greatest 12 = .ok (.iconst 0, 1) := by decide +kernel
theorem dX9_greatest_13 : decode cX9_greatest 13 = .ok (.istore 4, 2) := by decide +kernel
theorem dX9_greatest_15 : decode cX9_greatest 15 = .ok (.iload 4, 2) := by decide +kernel
theorem dX9_greatest_17 : decode cX9_greatest 17 = .ok (.iload_n 2, 1) := by decide +kernel
theorem dX9_greatest_18 : decode cX9_greatest 18 = .ok (.if_icmp .gt 63, 3) := by decide +kernel
theorem dX9_greatest_21 : decode cX9_greatest 21 = .ok (.iconst 0, 1) := by decide +kernel
theorem dX9_greatest_22 : decode cX9_greatest 22 = .ok (.istore 5, 2) := by decide +kernel
theorem dX9_greatest_24 : decode cX9_greatest 24 = .ok (.iload 5, 2) := by decide +kernel
theorem dX9_greatest_26 : decode cX9_greatest 26 = .ok (.iconst 4, 1) := by decide +kernel
theorem dX9_greatest_27 : decode cX9_greatest 27 = .ok (.if_icmp .ge 48, 3) := by decide +kernel
theorem dX9_greatest_30 : decode cX9_greatest 30 = .ok (.aload_n 0, 1) := by decide +kernel
theorem dX9_greatest_31 : decode cX9_greatest 31 = .ok (.getfield 19, 3) := by decide +kernel
theorem dX9_greatest_34 : decode cX9_greatest 34 = .ok (.iconst 4, 1) := by decide +kernel
theorem dX9_greatest_35 : decode cX9_greatest 35 = .ok (.bipush 20, 2) := by decide +kernel
theorem dX9_greatest_37 : decode cX9_greatest 37 = .ok (.iload_n 1, 1) := by decide +kernel
theorem dX9_greatest_38 : decode cX9_greatest 38 = .ok (.imul, 1) := by decide +kernel
theorem dX9_greatest_39 : decode cX9_greatest 39 = .ok (.iload 4, 2) := by decide +kernel
theorem dX9_greatest_41 : decode cX9_greatest 41 = .ok (.iadd, 1) := by decide +kernel
theorem dX9_greatest_42 : decode cX9_greatest 42 = .ok (.imul, 1) := by decide +kernel
theorem dX9_greatest_43 : decode cX9_greatest 43 = .ok (.iload 5, 2) := by decide +kernel
theorem dX9_greatest_45 : decode cX9_greatest 45 = .ok (.iadd, 1) := by decide +kernel
theorem dX9_greatest_46 : decode cX9_greatest 46 = .ok (.iaload, 1) := by decide +kernel
theorem dX9_greatest_47 : decode cX9_greatest 47 = .ok (.iload_n 3, 1) := by decide +kernel
theorem dX9_greatest_48 : decode cX9_greatest 48 = .ok (.if_icmp .le 21, 3) := by decide +kernel
theorem dX9_greatest_51 : decode cX9_greatest 51 = .ok (.aload_n 0, 1) := by decide +kernel
theorem dX9_greatest_52 : decode cX9_greatest 52 = .ok (.getfield 19, 3) := by decide +kernel
theorem dX9_greatest_55 : decode cX9_greatest 55 = .ok (.iconst 4, 1) := by decide +kernel
theorem dX9_greatest_56 : decode cX9_greatest 56 = .ok (.bipush 20, 2) := by decide +kernel
theorem dX9_greatest_58 : decode cX9_greatest 58 = .ok (.iload_n 1, 1) := by decide +kernel
theorem dX9_greatest_59 : decode cX9_greatest 59 = .ok (.imul, 1) := by decide +kernel
theorem dX9_greatest_60 : decode cX9_greatest 60 = .ok (.iload 4, 2) := by decide +kernel
theorem dX9_greatest_62 : decode cX9_greatest 62 = .ok (.iadd, 1) := by decide +kernel
theorem dX9_greatest_63 : decode cX9_greatest 63 = .ok (.imul, 1) := by decide +kernel
theorem dX9_greatest_64 : decode cX9_greatest 64 = .ok (.iload 5, 2) := by decide +kernel
theorem dX9_greatest_66 : decode cX9_greatest 66 = .ok (.iadd, 1) := by decide +kernel
theorem dX9_greatest_67 : decode cX9_greatest 67 = .ok (.iaload, 1) := by decide +kernel
theorem dX9_greatest_68 : decode cX9_greatest 68 = .ok (.istore_n 3, 1) := by decide +kernel
theorem dX9_greatest_69 : decode cX9_greatest 69 = .ok (.iinc 5 1, 3) := by decide +kernel
theorem dX9_greatest_72 : decode cX9_greatest 72 = .ok (.goto (-48), 3) := by decide +kernel
theorem dX9_greatest_75 : decode cX9_greatest 75 = .ok (.iinc 4 1, 3) := by decide +kernel
theorem dX9_greatest_78 : decode cX9_greatest 78 = .ok (.goto (-63), 3) := by decide +kernel
theorem dX9_greatest_81 : decode cX9_greatest 81 = .ok (.iload_n 3, 1) := by decide +kernel
theorem dX9_greatest_82 : decode cX9_greatest 82 = .ok (.ireturn, 1) := by decide +kernel
set_option maxRecDepth 20000 in
theorem ggX9_fouled_X9_isWorks : GoodIn wsX9_fouled wsX9_isWorks := goodIn_r _ [6, 7, 8, 9, 5, 10, 15, 16, 17, 18, 19, 20, 21, 22, 23, 24, 25, 26, 27, 28, 29, 30, 31, 32, 33, 34, 35, 36, 37, 38, 39, 40, 41, 42, 43, 44, 45, 46, 47, 48] (by decide +kernel) (by decide +kernel)
set_option maxRecDepth 20000 in
theorem gX9_fouled_X9_isWorks : GoodIn wsX9_fouled (wsV RX9 109 RX9 yX9_isWorks wsX9_isWorks) := goodIn_app (goodIn_of _ (by decide +kernel)) ggX9_fouled_X9_isWorks
set_option maxRecDepth 20000 in
theorem ggX9_fouled_X9_in : GoodIn wsX9_fouled wsX9_in := goodIn_r _ [10] (by decide +kernel) (by decide +kernel)
set_option maxRecDepth 20000 in
theorem gX9_fouled_X9_in : GoodIn wsX9_fouled (va_wsS RX9 90 yX9_in wsX9_in) := goodIn_app (goodIn_of _ (by decide +kernel)) ggX9_fouled_X9_in
set_option maxRecDepth 20000 in
theorem ggX9_fouled_X9_greatest : GoodIn wsX9_fouled wsX9_greatest := goodIn_r _ [14, 1, 15, 16, 17, 18, 19, 20, 21, 22, 23, 24, 25, 26, 27, 28, 29, 30, 31, 32, 33, 34, 35, 36, 37, 38, 39, 40, 41, 42, 43, 44, 45, 46, 47, 48] (by decide +kernel) (by decide +kernel)
set_option maxRecDepth 20000 in
theorem gX9_fouled_X9_greatest : GoodIn wsX9_fouled (wsV RX9 116 RX9 yX9_greatest wsX9_greatest) := goodIn_app (goodIn_of _ (by decide +kernel)) ggX9_fouled_X9_greatest
theorem dX9_fouled_0 : decode cX9_fouled 0 = .ok (.aload_n 0, 1) := by decide +kernel
theorem dX9_fouled_1 : decode cX9_fouled 1 = .ok (.iload_n 1, 1) := by decide +kernel
theorem dX9_fouled_2 : decode cX9_fouled 2 = .ok (.invokevirtual 109, 3) := by decide +kernel
theorem dX9_fouled_5 : decode cX9_fouled 5 = .ok (.ifCond .eq 13, 3) := by decide +kernel
theorem dX9_fouled_8 : decode cX9_fouled 8 = .ok (.iload_n 2, 1) := by decide +kernel
theorem dX9_fouled_9 : decode cX9_fouled 9 = .ok (.iconst 0, 1) := by decide +kernel
theorem dX9_fouled_10 : decode cX9_fouled 10 = .ok (.bipush 19, 2) := by decide +kernel
theorem dX9_fouled_12 : decode cX9_fouled 12 = .ok (.invokestatic 90, 3) := by decide +kernel
theorem dX9_fouled_15 : decode cX9_fouled 15 = .ok (.ifCond .ne 5, 3) := by decide +kernel
theorem dX9_fouled_18 : decode cX9_fouled 18 = .ok (.iconst (-1), 1) := by decide +kernel
theorem dX9_fouled_19 : decode cX9_fouled 19 = .ok (.ireturn, 1) := by decide +kernel
theorem dX9_fouled_20 : decode cX9_fouled 20 = .ok (.aload_n 0, 1) := by decide +kernel
theorem dX9_fouled_21 : decode cX9_fouled 21 = .ok (.iload_n 1, 1) := by decide +kernel
theorem dX9_fouled_22 : decode cX9_fouled 22 = .ok (.iload_n 2, 1) := by decide +kernel
theorem dX9_fouled_23 : decode cX9_fouled 23 = .ok (.invokevirtual 116, 3) := by decide +kernel
theorem dX9_fouled_26 : decode cX9_fouled 26 = .ok (.istore_n 3, 1) := by decide +kernel
theorem dX9_fouled_27 : decode cX9_fouled 27 = .ok (.iload_n 3, 1) := by decide +kernel
theorem dX9_fouled_28 : decode cX9_fouled 28 = .ok (.iconst (-1), 1) := by decide +kernel
theorem dX9_fouled_29 : decode cX9_fouled 29 = .ok (.if_icmp .ne 8, 3) := by decide +kernel
theorem dX9_fouled_32 : decode cX9_fouled 32 = .ok (.bipush 10, 2) := by decide +kernel
theorem dX9_fouled_34 : decode cX9_fouled 34 = .ok (.goto 13, 3) := by decide +kernel
theorem dX9_fouled_37 : decode cX9_fouled 37 = .ok (.iload_n 3, 1) := by decide +kernel
theorem dX9_fouled_38 : decode cX9_fouled 38 = .ok (.bipush 110, 2) := by decide +kernel
theorem dX9_fouled_40 : decode cX9_fouled 40 = .ok (.imul, 1) := by decide +kernel
theorem dX9_fouled_41 : decode cX9_fouled 41 = .ok (.bipush 99, 2) := by decide +kernel
theorem dX9_fouled_43 : decode cX9_fouled 43 = .ok (.iadd, 1) := by decide +kernel
theorem dX9_fouled_44 : decode cX9_fouled 44 = .ok (.bipush 100, 2) := by decide +kernel
theorem dX9_fouled_46 : decode cX9_fouled 46 = .ok (.idiv, 1) := by decide +kernel
theorem dX9_fouled_47 : decode cX9_fouled 47 = .ok (.istore 4, 2) := by decide +kernel
theorem dX9_fouled_49 : decode cX9_fouled 49 = .ok (.iload 4, 2) := by decide +kernel
theorem dX9_fouled_51 : decode cX9_fouled 51 = .ok (.ifCond .ne 6, 3) := by decide +kernel
theorem dX9_fouled_54 : decode cX9_fouled 54 = .ok (.iconst 1, 1) := by decide +kernel
theorem dX9_fouled_55 : decode cX9_fouled 55 = .ok (.istore 4, 2) := by decide +kernel
theorem dX9_fouled_57 : decode cX9_fouled 57 = .ok (.iconst 0, 1) := by decide +kernel
theorem dX9_fouled_58 : decode cX9_fouled 58 = .ok (.istore 5, 2) := by decide +kernel
theorem dX9_fouled_60 : decode cX9_fouled 60 = .ok (.iconst 0, 1) := by decide +kernel
theorem dX9_fouled_61 : decode cX9_fouled 61 = .ok (.istore 6, 2) := by decide +kernel
theorem dX9_fouled_63 : decode cX9_fouled 63 = .ok (.iload 6, 2) := by decide +kernel
theorem dX9_fouled_65 : decode cX9_fouled 65 = .ok (.iconst 4, 1) := by decide +kernel
theorem dX9_fouled_66 : decode cX9_fouled 66 = .ok (.if_icmp .ge 45, 3) := by decide +kernel
theorem dX9_fouled_69 : decode cX9_fouled 69 = .ok (.aload_n 0, 1) := by decide +kernel
theorem dX9_fouled_70 : decode cX9_fouled 70 = .ok (.getfield 19, 3) := by decide +kernel
theorem dX9_fouled_73 : decode cX9_fouled 73 = .ok (.iconst 4, 1) := by decide +kernel
theorem dX9_fouled_74 : decode cX9_fouled 74 = .ok (.bipush 20, 2) := by decide +kernel
theorem dX9_fouled_76 : decode cX9_fouled 76 = .ok (.iload_n 1, 1) := by decide +kernel
theorem dX9_fouled_77 : decode cX9_fouled 77 = .ok (.imul, 1) := by decide +kernel
theorem dX9_fouled_78 : decode cX9_fouled 78 = .ok (.iload_n 2, 1) := by decide +kernel
theorem dX9_fouled_79 : decode cX9_fouled 79 = .ok (.iadd, 1) := by decide +kernel
theorem dX9_fouled_80 : decode cX9_fouled 80 = .ok (.imul, 1) := by decide +kernel
theorem dX9_fouled_81 : decode cX9_fouled 81 = .ok (.iload 6, 2) := by decide +kernel
theorem dX9_fouled_83 : decode cX9_fouled 83 = .ok (.iadd, 1) := by decide +kernel
theorem dX9_fouled_84 : decode cX9_fouled 84 = .ok (.iaload, 1) := by decide +kernel
theorem dX9_fouled_85 : decode cX9_fouled 85 = .ok (.istore 7, 2) := by decide +kernel
theorem dX9_fouled_87 : decode cX9_fouled 87 = .ok (.iload 5, 2) := by decide +kernel
theorem dX9_fouled_89 : decode cX9_fouled 89 = .ok (.iload 7, 2) := by decide +kernel
theorem dX9_fouled_91 : decode cX9_fouled 91 = .ok (.iconst (-1), 1) := by decide +kernel
theorem dX9_fouled_92 : decode cX9_fouled 92 = .ok (.if_icmp .ne 8, 3) := by decide +kernel
theorem dX9_fouled_95 : decode cX9_fouled 95 = .ok (.iload 4, 2) := by decide +kernel
theorem dX9_fouled_97 : decode cX9_fouled 97 = .ok (.goto 5, 3) := by decide +kernel
theorem dX9_fouled_100 : decode cX9_fouled 100 = .ok (.iload 7, 2) := by decide +kernel
theorem dX9_fouled_102 : decode cX9_fouled 102 = .ok (.iadd, 1) := by decide +kernel
theorem dX9_fouled_103 : decode cX9_fouled 103 = .ok (.istore 5, 2) := by decide +kernel
theorem dX9_fouled_105 : decode cX9_fouled 105 = .ok (.iinc 6 1, 3) := by decide +kernel
theorem dX9_fouled_108 : decode cX9_fouled 108 = .ok (.goto (-45), 3) := by decide +kernel
theorem dX9_fouled_111 : decode cX9_fouled 111 = .ok (.iload 5, 2) := by decide +kernel
theorem dX9_fouled_113 : decode cX9_fouled 113 = .ok (.ireturn, 1) := by decide +kernel
theorem dX9_comes_0 : decode cX9_comes 0 = .ok (.aload_n 0, 1) := by decide +kernel
theorem dX9_comes_1 : decode cX9_comes 1 = .ok (.getfield 31, 3) := by decide +kernel
theorem dX9_comes_4 : decode cX9_comes 4 = .ok (.aload_n 0, 1) := by decide +kernel
theorem dX9_comes_5 : decode cX9_comes 5 = .ok (.getfield 120, 3) := by decide +kernel
theorem dX9_comes_8 : decode cX9_comes 8 = .ok (.iconst 0, 1) := by decide +kernel
theorem dX9_comes_9 : decode cX9_comes 9 = .ok (.iastore, 1) := by decide +kernel
theorem dX9_comes_10 : decode cX9_comes 10 = .ok (.aload_n 0, 1) := by decide +kernel
theorem dX9_comes_11 : decode cX9_comes 11 = .ok (.getfield 34, 3) := by decide +kernel
theorem dX9_comes_14 : decode cX9_comes 14 = .ok (.aload_n 0, 1) := by decide +kernel
theorem dX9_comes_15 : decode cX9_comes 15 = .ok (.getfield 120, 3) := by decide +kernel
theorem dX9_comes_18 : decode cX9_comes 18 = .ok (.iload_n 1, 1) := by decide +kernel
theorem dX9_comes_19 : decode cX9_comes 19 = .ok (.iastore, 1) := by decide +kernel
theorem dX9_comes_20 : decode cX9_comes 20 = .ok (.aload_n 0, 1) := by decide +kernel
theorem dX9_comes_21 : decode cX9_comes 21 = .ok (.getfield 37, 3) := by decide +kernel
theorem dX9_comes_24 : decode cX9_comes 24 = .ok (.aload_n 0, 1) := by decide +kernel
theorem dX9_comes_25 : decode cX9_comes 25 = .ok (.getfield 120, 3) := by decide +kernel
theorem dX9_comes_28 : decode cX9_comes 28 = .ok (.aload_n 0, 1) := by decide +kernel
theorem dX9_comes_29 : decode cX9_comes 29 = .ok (.getfield 113, 3) := by decide +kernel
theorem dX9_comes_32 : decode cX9_comes 32 = .ok (.iastore, 1) := by decide +kernel
theorem dX9_comes_33 : decode cX9_comes 33 = .ok (.aload_n 0, 1) := by decide +kernel
theorem dX9_comes_34 : decode cX9_comes 34 = .ok (.getfield 40, 3) := by decide +kernel
theorem dX9_comes_37 : decode cX9_comes 37 = .ok (.aload_n 0, 1) := by decide +kernel
theorem dX9_comes_38 : decode cX9_comes 38 = .ok (.getfield 120, 3) := by decide +kernel
theorem dX9_comes_41 : decode cX9_comes 41 = .ok (.iconst (-1), 1) := by decide +kernel
theorem dX9_comes_42 : decode cX9_comes 42 = .ok (.iastore, 1) := by decide +kernel
theorem dX9_comes_43 : decode cX9_comes 43 = .ok (.aload_n 0, 1) := by decide +kernel
theorem dX9_comes_44 : decode cX9_comes 44 = .ok (.getfield 43, 3) := by decide +kernel
theorem dX9_comes_47 : decode cX9_comes 47 = .ok (.aload_n 0, 1) := by decide +kernel
theorem dX9_comes_48 : decode cX9_comes 48 = .ok (.getfield 120, 3) := by decide +kernel
theorem dX9_comes_51 : decode cX9_comes 51 = .ok (.iload_n 2, 1) := by decide +kernel
theorem dX9_comes_52 : decode cX9_comes 52 = .ok (.iastore, 1) := by decide +kernel
theorem dX9_comes_53 : decode cX9_comes 53 = .ok (.aload_n 0, 1) := by decide +kernel
theorem dX9_comes_54 : decode cX9_comes 54 = .ok (.dup, 1) := by decide +kernel
theorem dX9_comes_55 : decode cX9_comes 55 = .ok (.getfield 120, 3) := by decide +kernel
theorem dX9_comes_58 : decode cX9_comes 58 = .ok (.iconst 1, 1) := by decide +kernel
theorem dX9_comes_59 : decode cX9_comes 59 = .ok (.iadd, 1) := by decide +kernel
theorem dX9_comes_60 : decode cX9_comes 60 = .ok (.putfield 120, 3) := by decide +kernel
theorem dX9_comes_63 : decode cX9_comes 63 = .ok (.return_, 1) := by decide +kernel
set_option maxRecDepth 20000 in
theorem ggX9_gives_X9_fouled : GoodIn wsX9_gives wsX9_fouled := goodIn_r _ [9, 10, 11, 12, 13, 8, 14, 2, 15, 16, 17, 18, 19, 20, 21, 22, 23, 24, 25, 26, 27, 28, 29, 30, 31, 32, 33, 34, 35, 36, 37, 38, 39, 40, 41, 42, 43, 44, 45, 46, 47, 48, 49, 50, 51, 52, 53, 54, 55] (by decide +kernel) (by decide +kernel)
set_option maxRecDepth 20000 in
theorem gX9_gives_X9_fouled : GoodIn wsX9_gives (wsV RX9 123 RX9 yX9_fouled wsX9_fouled) := goodIn_app (goodIn_of _ (by decide +kernel)) ggX9_gives_X9_fouled
theorem dX9_gives_0 : decode cX9_gives 0 = .ok (.iconst 0, 1) := by decide +kernel
theorem dX9_gives_1 : decode cX9_gives 1 = .ok (.istore_n 2, 1) := by decide +kernel
theorem dX9_gives_2 : decode cX9_gives 2 = .ok (.iconst 0, 1) := by decide +kernel
theorem dX9_gives_3 : decode cX9_gives 3 = .ok (.istore_n 3, 1) := by decide +kernel
theorem dX9_gives_4 : decode cX9_gives 4 = .ok (.iload_n 3, 1) := by decide +kernel
theorem dX9_gives_5 : decode cX9_gives 5 = .ok (.bipush 10, 2) := by decide +kernel
theorem dX9_gives_7 : decode cX9_gives 7 = .ok (.if_icmp .ge 16, 3) := by decide +kernel
theorem dX9_gives_10 : decode cX9_gives 10 = .ok (.aload_n 0, 1) := by decide +kernel
theorem dX9_gives_11 : decode cX9_gives 11 = .ok (.getfield 75, 3) := by decide +kernel
theorem dX9_gives_14 : decode cX9_gives 14 = .ok (.iload_n 3, 1) := by decide +kernel
theorem dX9_gives_15 : decode cX9_gives 15 = .ok (.iconst 0, 1) := by decide +kernel
theorem dX9_gives_16 : decode cX9_gives 16 = .ok (.iastore, 1) := by decide +kernel
theorem dX9_gives_17 : decode cX9_gives 17 = .ok (.iinc 3 1, 3) := by decide +kernel
theorem dX9_gives_20 : decode cX9_gives 20 = .ok (.goto (-16), 3) := by decide +kernel
theorem dX9_gives_23 : decode cX9_gives 23 = .ok (.iconst 0, 1) := by decide +kernel
theorem dX9_gives_24 : decode cX9_gives 24 = .ok (.istore_n 3, 1) := by decide +kernel
theorem dX9_gives_25 : decode cX9_gives 25 = .ok (.iload_n 3, 1) := by decide +kernel
theorem dX9_gives_26 : decode cX9_gives 26 = .ok (.aload_n 0, 1) := by decide +kernel
theorem dX9_gives_27 : decode cX9_gives 27 = .ok (.getfield 87, 3) := by decide +kernel
theorem dX9_gives_30 : decode cX9_gives 30 = .ok (.if_icmp .ge 30, 3) := by decide +kernel
theorem dX9_gives_33 : decode cX9_gives 33 = .ok (.aload_n 0, 1) := by decide +kernel
theorem dX9_gives_34 : decode cX9_gives 34 = .ok (.getfield 113, 3) := by decide +kernel
theorem dX9_gives_37 : decode cX9_gives 37 = .ok (.ifCond .le 23, 3) := by decide +kernel
theorem dX9_gives_40 : decode cX9_gives 40 = .ok (.iload_n 2, 1) := by decide +kernel
theorem dX9_gives_41 : decode cX9_gives 41 = .ok (.aload_n 0, 1) := by decide +kernel
theorem dX9_gives_42 : decode cX9_gives 42 = .ok (.iload_n 3, 1) := by decide +kernel
theorem dX9_gives_43 : decode cX9_gives 43 = .ok (.aload_n 0, 1) := by decide +kernel
theorem dX9_gives_44 : decode cX9_gives 44 = .ok (.getfield 113, 3) := by decide +kernel
theorem dX9_gives_47 : decode cX9_gives 47 = .ok (.iconst 1, 1) := by decide +kernel
theorem dX9_gives_48 : decode cX9_gives 48 = .ok (.isub, 1) := by decide +kernel
theorem dX9_gives_49 : decode cX9_gives 49 = .ok (.invokevirtual 123, 3) := by decide +kernel
theorem dX9_gives_52 : decode cX9_gives 52 = .ok (.iadd, 1) := by decide +kernel
theorem dX9_gives_53 : decode cX9_gives 53 = .ok (.istore_n 2, 1) := by decide +kernel
theorem dX9_gives_54 : decode cX9_gives 54 = .ok (.iinc 3 1, 3) := by decide +kernel
theorem dX9_gives_57 : decode cX9_gives 57 = .ok (.goto (-32), 3) := by decide +kernel
theorem dX9_gives_60 : decode cX9_gives 60 = .ok (.iload_n 2, 1) := by decide +kernel
theorem dX9_gives_61 : decode cX9_gives 61 = .ok (.ifCond .ne 4, 3) := by decide +kernel
theorem dX9_gives_64 : decode cX9_gives 64 = .ok (.return_, 1) := by decide +kernel
theorem dX9_gives_65 : decode cX9_gives 65 = .ok (.iload_n 1, 1) := by decide +kernel
theorem dX9_gives_66 : decode cX9_gives 66 = .ok (.istore_n 3, 1) := by decide +kernel
theorem dX9_gives_67 : decode cX9_gives 67 = .ok (.iconst 0, 1) := by decide +kernel
theorem dX9_gives_68 : decode cX9_gives 68 = .ok (.istore 4, 2) := by decide +kernel
theorem dX9_gives_70 : decode cX9_gives 70 = .ok (.iload 4, 2) := by decide +kernel
theorem dX9_gives_72 : decode cX9_gives 72 = .ok (.aload_n 0, 1) := by decide +kernel
theorem dX9_gives_73 : decode cX9_gives 73 = .ok (.getfield 87, 3) := by decide +kernel
theorem dX9_gives_76 : decode cX9_gives 76 = .ok (.if_icmp .ge 65, 3) := by decide +kernel
theorem dX9_gives_79 : decode cX9_gives 79 = .ok (.aload_n 0, 1) := by decide +kernel
theorem dX9_gives_80 : decode cX9_gives 80 = .ok (.getfield 75, 3) := by decide +kernel
theorem dX9_gives_83 : decode cX9_gives 83 = .ok (.iload 4, 2) := by decide +kernel
theorem dX9_gives_85 : decode cX9_gives 85 = .ok (.iload_n 1, 1) := by decide +kernel
theorem dX9_gives_86 : decode cX9_gives 86 = .ok (.aload_n 0, 1) := by decide +kernel
theorem dX9_gives_87 : decode cX9_gives 87 = .ok (.iload 4, 2) := by decide +kernel
theorem dX9_gives_89 : decode cX9_gives 89 = .ok (.aload_n 0, 1) := by decide +kernel
theorem dX9_gives_90 : decode cX9_gives 90 = .ok (.getfield 113, 3) := by decide +kernel
theorem dX9_gives_93 : decode cX9_gives 93 = .ok (.iconst 1, 1) := by decide +kernel
theorem dX9_gives_94 : decode cX9_gives 94 = .ok (.isub, 1) := by decide +kernel
theorem dX9_gives_95 : decode cX9_gives 95 = .ok (.invokevirtual 123, 3) := by decide +kernel
theorem dX9_gives_98 : decode cX9_gives 98 = .ok (.imul, 1) := by decide +kernel
theorem dX9_gives_99 : decode cX9_gives 99 = .ok (.iload_n 2, 1) := by decide +kernel
theorem dX9_gives_100 : decode cX9_gives 100 = .ok (.idiv, 1) := by decide +kernel
theorem dX9_gives_101 : decode cX9_gives 101 = .ok (.iastore, 1) := by decide +kernel
theorem dX9_gives_102 : decode cX9_gives 102 = .ok (.aload_n 0, 1) := by decide +kernel
theorem dX9_gives_103 : decode cX9_gives 103 = .ok (.getfield 78, 3) := by decide +kernel
theorem dX9_gives_106 : decode cX9_gives 106 = .ok (.iload 4, 2) := by decide +kernel
theorem dX9_gives_108 : decode cX9_gives 108 = .ok (.iload_n 1, 1) := by decide +kernel
theorem dX9_gives_109 : decode cX9_gives 109 = .ok (.aload_n 0, 1) := by decide +kernel
theorem dX9_gives_110 : decode cX9_gives 110 = .ok (.iload 4, 2) := by decide +kernel
theorem dX9_gives_112 : decode cX9_gives 112 = .ok (.aload_n 0, 1) := by decide +kernel
theorem dX9_gives_113 : decode cX9_gives 113 = .ok (.getfield 113, 3) := by decide +kernel
theorem dX9_gives_116 : decode cX9_gives 116 = .ok (.iconst 1, 1) := by decide +kernel
theorem dX9_gives_117 : decode cX9_gives 117 = .ok (.isub, 1) := by decide +kernel
theorem dX9_gives_118 : decode cX9_gives 118 = .ok (.invokevirtual 123, 3) := by decide +kernel
theorem dX9_gives_121 : decode cX9_gives 121 = .ok (.imul, 1) := by decide +kernel
theorem dX9_gives_122 : decode cX9_gives 122 = .ok (.iload_n 2, 1) := by decide +kernel
theorem dX9_gives_123 : decode cX9_gives 123 = .ok (.irem, 1) := by decide +kernel
theorem dX9_gives_124 : decode cX9_gives 124 = .ok (.iastore, 1) := by decide +kernel
theorem dX9_gives_125 : decode cX9_gives 125 = .ok (.iload_n 3, 1) := by decide +kernel
theorem dX9_gives_126 : decode cX9_gives 126 = .ok (.aload_n 0, 1) := by decide +kernel
theorem dX9_gives_127 : decode cX9_gives 127 = .ok (.getfield 75, 3) := by decide +kernel
theorem dX9_gives_130 : decode cX9_gives 130 = .ok (.iload 4, 2) := by decide +kernel
theorem dX9_gives_132 : decode cX9_gives 132 = .ok (.iaload, 1) := by decide +kernel
theorem dX9_gives_133 : decode cX9_gives 133 = .ok (.isub, 1) := by decide +kernel
theorem dX9_gives_134 : decode cX9_gives 134 = .ok (.istore_n 3, 1) := by decide +kernel
theorem dX9_gives_135 : decode cX9_gives 135 = .ok (.iinc 4 1, 3) := by decide +kernel
theorem dX9_gives_138 : decode cX9_gives 138 = .ok (.goto (-68), 3) := by decide +kernel
theorem dX9_gives_141 : decode cX9_gives 141 = .ok (.iload_n 3, 1) := by decide +kernel
theorem dX9_gives_142 : decode cX9_gives 142 = .ok (.ifCond .le 70, 3) := by decide +kernel
theorem dX9_gives_145 : decode cX9_gives 145 = .ok (.iconst 0, 1) := by decide +kernel
theorem dX9_gives_146 : decode cX9_gives 146 = .ok (.istore 4, 2) := by decide +kernel
theorem dX9_gives_148 : decode cX9_gives 148 = .ok (.iconst 1, 1) := by decide +kernel
theorem dX9_gives_149 : decode cX9_gives 149 = .ok (.istore 5, 2) := by decide +kernel
theorem dX9_gives_151 : decode cX9_gives 151 = .ok (.iload 5, 2) := by decide +kernel
theorem dX9_gives_153 : decode cX9_gives 153 = .ok (.aload_n 0, 1) := by decide +kernel
theorem dX9_gives_154 : decode cX9_gives 154 = .ok (.getfield 87, 3) := by decide +kernel
theorem dX9_gives_157 : decode cX9_gives 157 = .ok (.if_icmp .ge 30, 3) := by decide +kernel
theorem dX9_gives_160 : decode cX9_gives 160 = .ok (.aload_n 0, 1) := by decide +kernel
theorem dX9_gives_161 : decode cX9_gives 161 = .ok (.getfield 78, 3) := by decide +kernel
theorem dX9_gives_164 : decode cX9_gives 164 = .ok (.iload 5, 2) := by decide +kernel
theorem dX9_gives_166 : decode cX9_gives 166 = .ok (.iaload, 1) := by decide +kernel
theorem dX9_gives_167 : decode cX9_gives 167 = .ok (.aload_n 0, 1) := by decide +kernel
theorem dX9_gives_168 : decode cX9_gives 168 = .ok (.getfield 78, 3) := by decide +kernel
theorem dX9_gives_171 : decode cX9_gives 171 = .ok (.iload 4, 2) := by decide +kernel
theorem dX9_gives_173 : decode cX9_gives 173 = .ok (.iaload, 1) := by decide +kernel
theorem dX9_gives_174 : decode cX9_gives 174 = .ok (.if_icmp .le 7, 3) := by decide +kernel
theorem dX9_gives_177 : decode cX9_gives 177 = .ok (.iload 5, 2) := by decide +kernel
theorem dX9_gives_179 : decode cX9_gives 179 = .ok (.istore 4, 2) := by decide +kernel
theorem dX9_gives_181 : decode cX9_gives 181 = .ok (.iinc 5 1, 3) := by decide +kernel
theorem dX9_gives_184 : decode cX9_gives 184 = .ok (.goto (-33), 3) := by decide +kernel
theorem dX9_gives_187 : decode cX9_gives 187 = .ok (.aload_n 0, 1) := by decide +kernel
theorem dX9_gives_188 : decode cX9_gives 188 = .ok (.getfield 75, 3) := by decide +kernel
theorem dX9_gives_191 : decode cX9_gives 191 = .ok (.iload 4, 2) := by decide +kernel
theorem dX9_gives_193 : decode cX9_gives 193 = .ok (.dup2, 1) := by decide +kernel
theorem dX9_gives_194 : decode cX9_gives 194 = .ok (.iaload, 1) := by decide +kernel
theorem dX9_gives_195 : decode cX9_gives 195 = .ok (.iconst 1, 1) := by decide +kernel
theorem dX9_gives_196 : decode cX9_gives 196 = .ok (.iadd, 1) := by decide +kernel
theorem dX9_gives_197 : decode cX9_gives 197 = .ok (.iastore, 1) := by decide +kernel
theorem dX9_gives_198 : decode cX9_gives 198 = .ok (.aload_n 0, 1) := by decide +kernel
theorem dX9_gives_199 : decode cX9_gives 199 = .ok (.getfield 78, 3) := by decide +kernel
theorem dX9_gives_202 : decode cX9_gives 202 = .ok (.iload 4, 2) := by decide +kernel
theorem dX9_gives_204 : decode cX9_gives 204 = .ok (.iconst (-1), 1) := by decide +kernel
theorem dX9_gives_205 : decode cX9_gives 205 = .ok (.iastore, 1) := by decide +kernel
theorem dX9_gives_206 : decode cX9_gives 206 = .ok (.iinc 3 (-1), 3) := by decide +kernel
theorem dX9_gives_209 : decode cX9_gives 209 = .ok (.goto (-68), 3) := by decide +kernel
theorem dX9_gives_212 : decode cX9_gives 212 = .ok (.return_, 1) := by decide +kernel
set_option maxRecDepth 20000 in
theorem ggX9_issue_X9_capOf : GoodIn wsX9_issue wsX9_capOf := goodIn_r _ [11, 12, 13, 14, 15, 16, 10, 17, 18, 54, 55, 56, 57, 58, 59, 60, 61, 62, 63, 64, 65, 66, 67, 68, 69, 70, 71, 72, 73, 74, 75, 76, 77, 78, 79, 80, 81, 82, 83, 84, 85, 86, 87] (by decide +kernel) (by decide +kernel)
set_option maxRecDepth 20000 in
theorem gX9_issue_X9_capOf : GoodIn wsX9_issue (wsV RX9 102 RX9 yX9_capOf wsX9_capOf) := goodIn_app (goodIn_of _ (by decide +kernel)) ggX9_issue_X9_capOf
set_option maxRecDepth 20000 in
theorem ggX9_issue_X9_partOf : GoodIn wsX9_issue wsX9_partOf := goodIn_r _ [22, 23, 14, 15, 16, 10, 17, 18, 13, 54, 55, 56, 57, 58, 59, 60, 61, 62, 63, 64, 65, 66, 67, 68, 69, 70, 71, 72, 73, 74, 75, 76, 77, 78, 79, 80, 81, 82, 83, 84, 85, 86, 87] (by decide +kernel) (by decide +kernel)
set_option maxRecDepth 20000 in
theorem gX9_issue_X9_partOf : GoodIn wsX9_issue (wsV RX9 105 RX9 yX9_partOf wsX9_partOf) := goodIn_app (goodIn_of _ (by decide +kernel)) ggX9_issue_X9_partOf
set_option maxRecDepth 20000 in
theorem ggX9_issue_X9_gives : GoodIn wsX9_issue wsX9_gives := goodIn_r _ [27, 6, 5, 1, 28, 29, 30, 31, 10, 32, 33, 34, 35, 36, 37, 38, 39, 40, 41, 42, 43, 44, 54, 55, 56, 57, 58, 59, 60, 61, 62, 63, 64, 65, 66, 67, 68, 69, 70, 71, 72, 73, 74, 75, 76, 77, 78, 79, 80, 81, 82, 83, 84, 85, 86, 87] (by decide +kernel) (by decide +kernel)
set_option maxRecDepth 20000 in
theorem gX9_issue_X9_gives : GoodIn wsX9_issue (wsV RX9 126 RX9 yX9_gives wsX9_gives) := goodIn_app (goodIn_of _ (by decide +kernel)) ggX9_issue_X9_gives
set_option maxRecDepth 20000 in
theorem ggX9_issue_X9_comes : GoodIn wsX9_issue wsX9_comes := goodIn_r _ [48, 49, 3, 50, 51, 1, 52, 53, 54, 55, 56, 57, 58, 59, 60, 61, 62, 63, 64, 65, 66, 67, 68, 69, 70, 71, 72, 73, 74, 75, 76, 77, 78, 79, 80, 81, 82, 83, 84, 85, 86, 87] (by decide +kernel) (by decide +kernel)
set_option maxRecDepth 20000 in
theorem gX9_issue_X9_comes : GoodIn wsX9_issue (wsV RX9 130 RX9 yX9_comes wsX9_comes) := goodIn_app (goodIn_of _ (by decide +kernel)) ggX9_issue_X9_comes
theorem dX9_issue_0 : decode cX9_issue 0 = .ok (.aload_n 0, 1) := by decide +kernel
theorem dX9_issue_1 : decode cX9_issue 1 = .ok (.getfield 113, 3) := by decide +kernel
theorem dX9_issue_4 : decode cX9_issue 4 = .ok (.bipush 20, 2) := by decide +kernel
theorem dX9_issue_6 : decode cX9_issue 6 = .ok (.if_icmp .eq 14, 3) := by decide +kernel
theorem dX9_issue_9 : decode cX9_issue 9 = .ok (.aload_n 0, 1) := by decide +kernel
theorem dX9_issue_10 : decode cX9_issue 10 = .ok (.getfield 49, 3) := by decide +kernel
theorem dX9_issue_13 : decode cX9_issue 13 = .ok (.aload_n 0, 1) := by decide +kernel
theorem dX9_issue_14 : decode cX9_issue 14 = .ok (.getfield 113, 3) := by decide +kernel
theorem dX9_issue_17 : decode cX9_issue 17 = .ok (.if_icmp .ne 5, 3) := by decide +kernel
theorem dX9_issue_20 : decode cX9_issue 20 = .ok (.iconst (-1), 1) := by decide +kernel
theorem dX9_issue_21 : decode cX9_issue 21 = .ok (.ireturn, 1) := by decide +kernel
theorem dX9_issue_22 : decode cX9_issue 22 = .ok (.aload_n 0, 1) := by decide +kernel
theorem dX9_issue_23 : decode cX9_issue 23 = .ok (.aload_n 0, 1) := by decide +kernel
theorem dX9_issue_24 : decode cX9_issue 24 = .ok (.getfield 113, 3) := by decide +kernel
theorem dX9_issue_27 : decode cX9_issue 27 = .ok (.invokevirtual 102, 3) := by decide +kernel
theorem dX9_issue_30 : decode cX9_issue 30 = .ok (.istore_n 1, 1) := by decide +kernel
theorem dX9_issue_31 : decode cX9_issue 31 = .ok (.aload_n 0, 1) := by decide +kernel
theorem dX9_issue_32 : decode cX9_issue 32 = .ok (.getfield 120, 3) := by decide +kernel
theorem dX9_issue_35 : decode cX9_issue 35 = .ok (.iload_n 1, 1) := by decide +kernel
theorem dX9_issue_36 : decode cX9_issue 36 = .ok (.iadd, 1) := by decide +kernel
theorem dX9_issue_37 : decode cX9_issue 37 = .ok (.sipush 4000, 3) := by decide +kernel
theorem dX9_issue_40 : decode cX9_issue 40 = .ok (.if_icmp .le 5, 3) := by decide +kernel
theorem dX9_issue_43 : decode cX9_issue 43 = .ok (.iconst (-1), 1) := by decide +kernel
theorem dX9_issue_44 : decode cX9_issue 44 = .ok (.ireturn, 1) := by decide +kernel
theorem dX9_issue_45 : decode cX9_issue 45 = .ok (.aload_n 0, 1) := by decide +kernel
theorem dX9_issue_46 : decode cX9_issue 46 = .ok (.iload_n 1, 1) := by decide +kernel
theorem dX9_issue_47 : decode cX9_issue 47 = .ok (.aload_n 0, 1) := by decide +kernel
theorem dX9_issue_48 : decode cX9_issue 48 = .ok (.aload_n 0, 1) := by decide +kernel
theorem dX9_issue_49 : decode cX9_issue 49 = .ok (.getfield 113, 3) := by decide +kernel
theorem dX9_issue_52 : decode cX9_issue 52 = .ok (.ldc 94, 2) := by decide +kernel
theorem dX9_issue_54 : decode cX9_issue 54 = .ok (.sipush 1000, 3) := by decide +kernel
theorem dX9_issue_57 : decode cX9_issue 57 = .ok (.invokevirtual 105, 3) := by decide +kernel
theorem dX9_issue_60 : decode cX9_issue 60 = .ok (.imul, 1) := by decide +kernel
theorem dX9_issue_61 : decode cX9_issue 61 = .ok (.bipush 100, 2) := by decide +kernel
theorem dX9_issue_63 : decode cX9_issue 63 = .ok (.idiv, 1) := by decide +kernel
theorem dX9_issue_64 : decode cX9_issue 64 = .ok (.invokevirtual 126, 3) := by decide +kernel
theorem dX9_issue_67 : decode cX9_issue 67 = .ok (.iload_n 1, 1) := by decide +kernel
theorem dX9_issue_68 : decode cX9_issue 68 = .ok (.istore_n 2, 1) := by decide +kernel
theorem dX9_issue_69 : decode cX9_issue 69 = .ok (.iconst 0, 1) := by decide +kernel
theorem dX9_issue_70 : decode cX9_issue 70 = .ok (.istore_n 3, 1) := by decide +kernel
theorem dX9_issue_71 : decode cX9_issue 71 = .ok (.iload_n 3, 1) := by decide +kernel
theorem dX9_issue_72 : decode cX9_issue 72 = .ok (.aload_n 0, 1) := by decide +kernel
theorem dX9_issue_73 : decode cX9_issue 73 = .ok (.getfield 87, 3) := by decide +kernel
theorem dX9_issue_76 : decode cX9_issue 76 = .ok (.if_icmp .ge 44, 3) := by decide +kernel
theorem dX9_issue_79 : decode cX9_issue 79 = .ok (.iconst 0, 1) := by decide +kernel
theorem dX9_issue_80 : decode cX9_issue 80 = .ok (.istore 4, 2) := by decide +kernel
theorem dX9_issue_82 : decode cX9_issue 82 = .ok (.iload 4, 2) := by decide +kernel
theorem dX9_issue_84 : decode cX9_issue 84 = .ok (.aload_n 0, 1) := by decide +kernel
theorem dX9_issue_85 : decode cX9_issue 85 = .ok (.getfield 75, 3) := by decide +kernel
theorem dX9_issue_88 : decode cX9_issue 88 = .ok (.iload_n 3, 1) := by decide +kernel
theorem dX9_issue_89 : decode cX9_issue 89 = .ok (.iaload, 1) := by decide +kernel
theorem dX9_issue_90 : decode cX9_issue 90 = .ok (.if_icmp .ge 15, 3) := by decide +kernel
theorem dX9_issue_93 : decode cX9_issue 93 = .ok (.aload_n 0, 1) := by decide +kernel
theorem dX9_issue_94 : decode cX9_issue 94 = .ok (.iload_n 3, 1) := by decide +kernel
theorem dX9_issue_95 : decode cX9_issue 95 = .ok (.iconst (-1), 1) := by decide +kernel
theorem dX9_issue_96 : decode cX9_issue 96 = .ok (.invokevirtual 130, 3) := by decide +kernel
theorem dX9_issue_99 : decode cX9_issue 99 = .ok (.iinc 4 1, 3) := by decide +kernel
theorem dX9_issue_102 : decode cX9_issue 102 = .ok (.goto (-20), 3) := by decide +kernel
theorem dX9_issue_105 : decode cX9_issue 105 = .ok (.iload_n 2, 1) := by decide +kernel
theorem dX9_issue_106 : decode cX9_issue 106 = .ok (.aload_n 0, 1) := by decide +kernel
theorem dX9_issue_107 : decode cX9_issue 107 = .ok (.getfield 75, 3) := by decide +kernel
theorem dX9_issue_110 : decode cX9_issue 110 = .ok (.iload_n 3, 1) := by decide +kernel
theorem dX9_issue_111 : decode cX9_issue 111 = .ok (.iaload, 1) := by decide +kernel
theorem dX9_issue_112 : decode cX9_issue 112 = .ok (.isub, 1) := by decide +kernel
theorem dX9_issue_113 : decode cX9_issue 113 = .ok (.istore_n 2, 1) := by decide +kernel
theorem dX9_issue_114 : decode cX9_issue 114 = .ok (.iinc 3 1, 3) := by decide +kernel
theorem dX9_issue_117 : decode cX9_issue 117 = .ok (.goto (-46), 3) := by decide +kernel
theorem dX9_issue_120 : decode cX9_issue 120 = .ok (.iconst 0, 1) := by decide +kernel
theorem dX9_issue_121 : decode cX9_issue 121 = .ok (.istore_n 3, 1) := by decide +kernel
theorem dX9_issue_122 : decode cX9_issue 122 = .ok (.iload_n 3, 1) := by decide +kernel
theorem dX9_issue_123 : decode cX9_issue 123 = .ok (.iload_n 2, 1) := by decide +kernel
theorem dX9_issue_124 : decode cX9_issue 124 = .ok (.if_icmp .ge 15, 3) := by decide +kernel
theorem dX9_issue_127 : decode cX9_issue 127 = .ok (.aload_n 0, 1) := by decide +kernel
theorem dX9_issue_128 : decode cX9_issue 128 = .ok (.iconst (-1), 1) := by decide +kernel
theorem dX9_issue_129 : decode cX9_issue 129 = .ok (.iconst (-1), 1) := by decide +kernel
theorem dX9_issue_130 : decode cX9_issue 130 = .ok (.invokevirtual 130, 3) := by decide +kernel
theorem dX9_issue_133 : decode cX9_issue 133 = .ok (.iinc 3 1, 3) := by decide +kernel
theorem dX9_issue_136 : decode cX9_issue 136 = .ok (.goto (-14), 3) := by decide +kernel
theorem dX9_issue_139 : decode cX9_issue 139 = .ok (.aload_n 0, 1) := by decide +kernel
theorem dX9_issue_140 : decode cX9_issue 140 = .ok (.aload_n 0, 1) := by decide +kernel
theorem dX9_issue_141 : decode cX9_issue 141 = .ok (.getfield 113, 3) := by decide +kernel
theorem dX9_issue_144 : decode cX9_issue 144 = .ok (.putfield 49, 3) := by decide +kernel
theorem dX9_issue_147 : decode cX9_issue 147 = .ok (.iload_n 1, 1) := by decide +kernel
theorem dX9_issue_148 : decode cX9_issue 148 = .ok (.ireturn, 1) := by decide +kernel
theorem dX9_holds_0 : decode cX9_holds 0 = .ok (.iconst 0, 1) := by decide +kernel
theorem dX9_holds_1 : decode cX9_holds 1 = .ok (.istore_n 2, 1) := by decide +kernel
theorem dX9_holds_2 : decode cX9_holds 2 = .ok (.iconst 0, 1) := by decide +kernel
theorem dX9_holds_3 : decode cX9_holds 3 = .ok (.istore_n 3, 1) := by decide +kernel
theorem dX9_holds_4 : decode cX9_holds 4 = .ok (.iload_n 3, 1) := by decide +kernel
theorem dX9_holds_5 : decode cX9_holds 5 = .ok (.aload_n 0, 1) := by decide +kernel
theorem dX9_holds_6 : decode cX9_holds 6 = .ok (.getfield 120, 3) := by decide +kernel
theorem dX9_holds_9 : decode cX9_holds 9 = .ok (.if_icmp .ge 36, 3) := by decide +kernel
theorem dX9_holds_12 : decode cX9_holds 12 = .ok (.iload_n 2, 1) := by decide +kernel
theorem dX9_holds_13 : decode cX9_holds 13 = .ok (.aload_n 0, 1) := by decide +kernel
theorem dX9_holds_14 : decode cX9_holds 14 = .ok (.getfield 31, 3) := by decide +kernel
theorem dX9_holds_17 : decode cX9_holds 17 = .ok (.iload_n 3, 1) := by decide +kernel
theorem dX9_holds_18 : decode cX9_holds 18 = .ok (.iaload, 1) := by decide +kernel
theorem dX9_holds_19 : decode cX9_holds 19 = .ok (.ifCond .ne 17, 3) := by decide +kernel
theorem dX9_holds_22 : decode cX9_holds 22 = .ok (.aload_n 0, 1) := by decide +kernel
theorem dX9_holds_23 : decode cX9_holds 23 = .ok (.getfield 34, 3) := by decide +kernel
theorem dX9_holds_26 : decode cX9_holds 26 = .ok (.iload_n 3, 1) := by decide +kernel
theorem dX9_holds_27 : decode cX9_holds 27 = .ok (.iaload, 1) := by decide +kernel
theorem dX9_holds_28 : decode cX9_holds 28 = .ok (.iload_n 1, 1) := by decide +kernel
theorem dX9_holds_29 : decode cX9_holds 29 = .ok (.if_icmp .ne 7, 3) := by decide +kernel
theorem dX9_holds_32 : decode cX9_holds 32 = .ok (.iconst 1, 1) := by decide +kernel
theorem dX9_holds_33 : decode cX9_holds 33 = .ok (.goto 4, 3) := by decide +kernel
theorem dX9_holds_36 : decode cX9_holds 36 = .ok (.iconst 0, 1) := by decide +kernel
theorem dX9_holds_37 : decode cX9_holds 37 = .ok (.iadd, 1) := by decide +kernel
theorem dX9_holds_38 : decode cX9_holds 38 = .ok (.istore_n 2, 1) := by decide +kernel
theorem dX9_holds_39 : decode cX9_holds 39 = .ok (.iinc 3 1, 3) := by decide +kernel
theorem dX9_holds_42 : decode cX9_holds 42 = .ok (.goto (-38), 3) := by decide +kernel
theorem dX9_holds_45 : decode cX9_holds 45 = .ok (.iload_n 2, 1) := by decide +kernel
theorem dX9_holds_46 : decode cX9_holds 46 = .ok (.ireturn, 1) := by decide +kernel
theorem dX9_goes_0 : decode cX9_goes 0 = .ok (.iload_n 3, 1) := by decide +kernel
theorem dX9_goes_1 : decode cX9_goes 1 = .ok (.istore 4, 2) := by decide +kernel
theorem dX9_goes_3 : decode cX9_goes 3 = .ok (.iconst 0, 1) := by decide +kernel
theorem dX9_goes_4 : decode cX9_goes 4 = .ok (.istore 5, 2) := by decide +kernel
theorem dX9_goes_6 : decode cX9_goes 6 = .ok (.iload 5, 2) := by decide +kernel
theorem dX9_goes_8 : decode cX9_goes 8 = .ok (.aload_n 0, 1) := by decide +kernel
theorem dX9_goes_9 : decode cX9_goes 9 = .ok (.getfield 120, 3) := by decide +kernel
theorem dX9_goes_12 : decode cX9_goes 12 = .ok (.if_icmp .ge 60, 3) := by decide +kernel
theorem dX9_goes_15 : decode cX9_goes 15 = .ok (.iload 4, 2) := by decide +kernel
theorem dX9_goes_17 : decode cX9_goes 17 = .ok (.ifCond .le 55, 3) := by decide +kernel
theorem dX9_goes_20 : decode cX9_goes 20 = .ok (.aload_n 0, 1) := by decide +kernel
theorem dX9_goes_21 : decode cX9_goes 21 = .ok (.getfield 31, 3) := by decide +kernel
theorem dX9_goes_24 : decode cX9_goes 24 = .ok (.iload 5, 2) := by decide +kernel
theorem dX9_goes_26 : decode cX9_goes 26 = .ok (.iaload, 1) := by decide +kernel
theorem dX9_goes_27 : decode cX9_goes 27 = .ok (.ifCond .ne 39, 3) := by decide +kernel
theorem dX9_goes_30 : decode cX9_goes 30 = .ok (.aload_n 0, 1) := by decide +kernel
theorem dX9_goes_31 : decode cX9_goes 31 = .ok (.getfield 34, 3) := by decide +kernel
theorem dX9_goes_34 : decode cX9_goes 34 = .ok (.iload 5, 2) := by decide +kernel
theorem dX9_goes_36 : decode cX9_goes 36 = .ok (.iaload, 1) := by decide +kernel
theorem dX9_goes_37 : decode cX9_goes 37 = .ok (.iload_n 1, 1) := by decide +kernel
theorem dX9_goes_38 : decode cX9_goes 38 = .ok (.if_icmp .eq 6, 3) := by decide +kernel
theorem dX9_goes_41 : decode cX9_goes 41 = .ok (.goto 25, 3) := by decide +kernel
theorem dX9_goes_44 : decode cX9_goes 44 = .ok (.aload_n 0, 1) := by decide +kernel
theorem dX9_goes_45 : decode cX9_goes 45 = .ok (.getfield 34, 3) := by decide +kernel
theorem dX9_goes_48 : decode cX9_goes 48 = .ok (.iload 5, 2) := by decide +kernel
theorem dX9_goes_50 : decode cX9_goes 50 = .ok (.iload_n 2, 1) := by decide +kernel
theorem dX9_goes_51 : decode cX9_goes 51 = .ok (.iastore, 1) := by decide +kernel
theorem dX9_goes_52 : decode cX9_goes 52 = .ok (.aload_n 0, 1) := by decide +kernel
theorem dX9_goes_53 : decode cX9_goes 53 = .ok (.getfield 46, 3) := by decide +kernel
theorem dX9_goes_56 : decode cX9_goes 56 = .ok (.iload 5, 2) := by decide +kernel
theorem dX9_goes_58 : decode cX9_goes 58 = .ok (.dup2, 1) := by decide +kernel
theorem dX9_goes_59 : decode cX9_goes 59 = .ok (.iaload, 1) := by decide +kernel
theorem dX9_goes_60 : decode cX9_goes 60 = .ok (.iconst 1, 1) := by decide +kernel
theorem dX9_goes_61 : decode cX9_goes 61 = .ok (.iadd, 1) := by decide +kernel
theorem dX9_goes_62 : decode cX9_goes 62 = .ok (.iastore, 1) := by decide +kernel
theorem dX9_goes_63 : decode cX9_goes 63 = .ok (.iinc 4 (-1), 3) := by decide +kernel
theorem dX9_goes_66 : decode cX9_goes 66 = .ok (.iinc 5 1, 3) := by decide +kernel
theorem dX9_goes_69 : decode cX9_goes 69 = .ok (.goto (-63), 3) := by decide +kernel
theorem dX9_goes_72 : decode cX9_goes 72 = .ok (.return_, 1) := by decide +kernel
theorem dX9_ends_0 : decode cX9_ends 0 = .ok (.iload_n 2, 1) := by decide +kernel
theorem dX9_ends_1 : decode cX9_ends 1 = .ok (.istore 4, 2) := by decide +kernel
theorem dX9_ends_3 : decode cX9_ends 3 = .ok (.iconst 0, 1) := by decide +kernel
theorem dX9_ends_4 : decode cX9_ends 4 = .ok (.istore 5, 2) := by decide +kernel
theorem dX9_ends_6 : decode cX9_ends 6 = .ok (.iload 5, 2) := by decide +kernel
theorem dX9_ends_8 : decode cX9_ends 8 = .ok (.aload_n 0, 1) := by decide +kernel
theorem dX9_ends_9 : decode cX9_ends 9 = .ok (.getfield 120, 3) := by decide +kernel
theorem dX9_ends_12 : decode cX9_ends 12 = .ok (.if_icmp .ge 65, 3) := by decide +kernel
theorem dX9_ends_15 : decode cX9_ends 15 = .ok (.iload 4, 2) := by decide +kernel
theorem dX9_ends_17 : decode cX9_ends 17 = .ok (.ifCond .le 60, 3) := by decide +kernel
theorem dX9_ends_20 : decode cX9_ends 20 = .ok (.aload_n 0, 1) := by decide +kernel
theorem dX9_ends_21 : decode cX9_ends 21 = .ok (.getfield 31, 3) := by decide +kernel
theorem dX9_ends_24 : decode cX9_ends 24 = .ok (.iload 5, 2) := by decide +kernel
theorem dX9_ends_26 : decode cX9_ends 26 = .ok (.iaload, 1) := by decide +kernel
theorem dX9_ends_27 : decode cX9_ends 27 = .ok (.ifCond .ne 44, 3) := by decide +kernel
theorem dX9_ends_30 : decode cX9_ends 30 = .ok (.aload_n 0, 1) := by decide +kernel
theorem dX9_ends_31 : decode cX9_ends 31 = .ok (.getfield 34, 3) := by decide +kernel
theorem dX9_ends_34 : decode cX9_ends 34 = .ok (.iload 5, 2) := by decide +kernel
theorem dX9_ends_36 : decode cX9_ends 36 = .ok (.iaload, 1) := by decide +kernel
theorem dX9_ends_37 : decode cX9_ends 37 = .ok (.iload_n 1, 1) := by decide +kernel
theorem dX9_ends_38 : decode cX9_ends 38 = .ok (.if_icmp .eq 6, 3) := by decide +kernel
theorem dX9_ends_41 : decode cX9_ends 41 = .ok (.goto 30, 3) := by decide +kernel
theorem dX9_ends_44 : decode cX9_ends 44 = .ok (.aload_n 0, 1) := by decide +kernel
theorem dX9_ends_45 : decode cX9_ends 45 = .ok (.getfield 31, 3) := by decide +kernel
theorem dX9_ends_48 : decode cX9_ends 48 = .ok (.iload 5, 2) := by decide +kernel
theorem dX9_ends_50 : decode cX9_ends 50 = .ok (.iload_n 3, 1) := by decide +kernel
theorem dX9_ends_51 : decode cX9_ends 51 = .ok (.iastore, 1) := by decide +kernel
theorem dX9_ends_52 : decode cX9_ends 52 = .ok (.iload_n 3, 1) := by decide +kernel
theorem dX9_ends_53 : decode cX9_ends 53 = .ok (.iconst 1, 1) := by decide +kernel
theorem dX9_ends_54 : decode cX9_ends 54 = .ok (.if_icmp .ne 14, 3) := by decide +kernel
theorem dX9_ends_57 : decode cX9_ends 57 = .ok (.aload_n 0, 1) := by decide +kernel
theorem dX9_ends_58 : decode cX9_ends 58 = .ok (.getfield 40, 3) := by decide +kernel
theorem dX9_ends_61 : decode cX9_ends 61 = .ok (.iload 5, 2) := by decide +kernel
theorem dX9_ends_63 : decode cX9_ends 63 = .ok (.aload_n 0, 1) := by decide +kernel
theorem dX9_ends_64 : decode cX9_ends 64 = .ok (.getfield 113, 3) := by decide +kernel
theorem dX9_ends_67 : decode cX9_ends 67 = .ok (.iastore, 1) := by decide +kernel
theorem dX9_ends_68 : decode cX9_ends 68 = .ok (.iinc 4 (-1), 3) := by decide +kernel
theorem dX9_ends_71 : decode cX9_ends 71 = .ok (.iinc 5 1, 3) := by decide +kernel
theorem dX9_ends_74 : decode cX9_ends 74 = .ok (.goto (-68), 3) := by decide +kernel
theorem dX9_ends_77 : decode cX9_ends 77 = .ok (.return_, 1) := by decide +kernel
set_option maxRecDepth 20000 in
theorem ggX9_bid_X9_isWorks : GoodIn wsX9_bid wsX9_isWorks := goodIn_r _ [9, 10, 11, 12, 8, 13, 14, 15, 16, 17, 18, 19, 20, 21, 22, 23, 24, 25, 26, 27, 28, 29, 30, 31, 32, 33, 34, 35, 36, 37, 38, 39, 40, 41, 42, 43, 44, 45, 46, 47] (by decide +kernel) (by decide +kernel)
set_option maxRecDepth 20000 in
theorem gX9_bid_X9_isWorks : GoodIn wsX9_bid (wsV RX9 109 RX9 yX9_isWorks wsX9_isWorks) := goodIn_app (goodIn_of _ (by decide +kernel)) ggX9_bid_X9_isWorks
set_option maxRecDepth 20000 in
theorem ggX9_bid_X9_in : GoodIn wsX9_bid wsX9_in := goodIn_r _ [13] (by decide +kernel) (by decide +kernel)
set_option maxRecDepth 20000 in
theorem gX9_bid_X9_in : GoodIn wsX9_bid (va_wsS RX9 90 yX9_in wsX9_in) := goodIn_app (goodIn_of _ (by decide +kernel)) ggX9_bid_X9_in
theorem dX9_bid_0 : decode cX9_bid 0 = .ok (.aload_n 0, 1) := by decide +kernel
theorem dX9_bid_1 : decode cX9_bid 1 = .ok (.iload_n 1, 1) := by decide +kernel
theorem dX9_bid_2 : decode cX9_bid 2 = .ok (.invokevirtual 109, 3) := by decide +kernel
theorem dX9_bid_5 : decode cX9_bid 5 = .ok (.ifCond .eq 34, 3) := by decide +kernel
theorem dX9_bid_8 : decode cX9_bid 8 = .ok (.iload_n 2, 1) := by decide +kernel
theorem dX9_bid_9 : decode cX9_bid 9 = .ok (.iconst 1, 1) := by decide +kernel
theorem dX9_bid_10 : decode cX9_bid 10 = .ok (.sipush 400, 3) := by decide +kernel
theorem dX9_bid_13 : decode cX9_bid 13 = .ok (.invokestatic 90, 3) := by decide +kernel
theorem dX9_bid_16 : decode cX9_bid 16 = .ok (.ifCond .eq 23, 3) := by decide +kernel
theorem dX9_bid_19 : decode cX9_bid 19 = .ok (.iload_n 3, 1) := by decide +kernel
theorem dX9_bid_20 : decode cX9_bid 20 = .ok (.iconst 0, 1) := by decide +kernel
theorem dX9_bid_21 : decode cX9_bid 21 = .ok (.sipush 999, 3) := by decide +kernel
theorem dX9_bid_24 : decode cX9_bid 24 = .ok (.invokestatic 90, 3) := by decide +kernel
theorem dX9_bid_27 : decode cX9_bid 27 = .ok (.ifCond .eq 12, 3) := by decide +kernel
theorem dX9_bid_30 : decode cX9_bid 30 = .ok (.aload_n 0, 1) := by decide +kernel
theorem dX9_bid_31 : decode cX9_bid 31 = .ok (.getfield 134, 3) := by decide +kernel
theorem dX9_bid_34 : decode cX9_bid 34 = .ok (.bipush 40, 2) := by decide +kernel
theorem dX9_bid_36 : decode cX9_bid 36 = .ok (.if_icmp .ne 5, 3) := by decide +kernel
theorem dX9_bid_39 : decode cX9_bid 39 = .ok (.iconst (-1), 1) := by decide +kernel
theorem dX9_bid_40 : decode cX9_bid 40 = .ok (.ireturn, 1) := by decide +kernel
theorem dX9_bid_41 : decode cX9_bid 41 = .ok (.aload_n 0, 1) := by decide +kernel
theorem dX9_bid_42 : decode cX9_bid 42 = .ok (.getfield 53, 3) := by decide +kernel
theorem dX9_bid_45 : decode cX9_bid 45 = .ok (.aload_n 0, 1) := by decide +kernel
theorem dX9_bid_46 : decode cX9_bid 46 = .ok (.getfield 134, 3) := by decide +kernel
theorem dX9_bid_49 : decode cX9_bid 49 = .ok (.iload_n 1, 1) := by decide +kernel
theorem dX9_bid_50 : decode cX9_bid 50 = .ok (.iastore, 1) := by decide +kernel
theorem dX9_bid_51 : decode cX9_bid 51 = .ok (.aload_n 0, 1) := by decide +kernel
theorem dX9_bid_52 : decode cX9_bid 52 = .ok (.getfield 56, 3) := by decide +kernel
theorem dX9_bid_55 : decode cX9_bid 55 = .ok (.aload_n 0, 1) := by decide +kernel
theorem dX9_bid_56 : decode cX9_bid 56 = .ok (.getfield 134, 3) := by decide +kernel
theorem dX9_bid_59 : decode cX9_bid 59 = .ok (.iload_n 2, 1) := by decide +kernel
theorem dX9_bid_60 : decode cX9_bid 60 = .ok (.iastore, 1) := by decide +kernel
theorem dX9_bid_61 : decode cX9_bid 61 = .ok (.aload_n 0, 1) := by decide +kernel
theorem dX9_bid_62 : decode cX9_bid 62 = .ok (.getfield 59, 3) := by decide +kernel
theorem dX9_bid_65 : decode cX9_bid 65 = .ok (.aload_n 0, 1) := by decide +kernel
theorem dX9_bid_66 : decode cX9_bid 66 = .ok (.getfield 134, 3) := by decide +kernel
theorem dX9_bid_69 : decode cX9_bid 69 = .ok (.iload_n 3, 1) := by decide +kernel
theorem dX9_bid_70 : decode cX9_bid 70 = .ok (.iastore, 1) := by decide +kernel
theorem dX9_bid_71 : decode cX9_bid 71 = .ok (.aload_n 0, 1) := by decide +kernel
theorem dX9_bid_72 : decode cX9_bid 72 = .ok (.dup, 1) := by decide +kernel
theorem dX9_bid_73 : decode cX9_bid 73 = .ok (.getfield 134, 3) := by decide +kernel
theorem dX9_bid_76 : decode cX9_bid 76 = .ok (.iconst 1, 1) := by decide +kernel
theorem dX9_bid_77 : decode cX9_bid 77 = .ok (.iadd, 1) := by decide +kernel
theorem dX9_bid_78 : decode cX9_bid 78 = .ok (.putfield 134, 3) := by decide +kernel
theorem dX9_bid_81 : decode cX9_bid 81 = .ok (.aload_n 0, 1) := by decide +kernel
theorem dX9_bid_82 : decode cX9_bid 82 = .ok (.getfield 134, 3) := by decide +kernel
theorem dX9_bid_85 : decode cX9_bid 85 = .ok (.ireturn, 1) := by decide +kernel
set_option maxRecDepth 20000 in
theorem ggX9_auction_X9_holds : GoodIn wsX9_auction wsX9_holds := goodIn_r _ [13, 14, 15, 16, 33, 34, 35, 36, 37, 38, 39, 40, 41, 42, 43, 44, 45, 46, 47, 48, 49, 50, 51, 52, 53, 54, 55, 56, 57, 58, 59, 60, 61, 62, 63, 64, 65, 66] (by decide +kernel) (by decide +kernel)
set_option maxRecDepth 20000 in
theorem gX9_auction_X9_holds : GoodIn wsX9_auction (wsV RX9 137 RX9 yX9_holds wsX9_holds) := goodIn_app (goodIn_of _ (by decide +kernel)) ggX9_auction_X9_holds
set_option maxRecDepth 20000 in
theorem ggX9_auction_X9_partOf : GoodIn wsX9_auction wsX9_partOf := goodIn_r _ [20, 21, 22, 23, 24, 12, 25, 26, 27, 33, 34, 35, 36, 37, 38, 39, 40, 41, 42, 43, 44, 45, 46, 47, 48, 49, 50, 51, 52, 53, 54, 55, 56, 57, 58, 59, 60, 61, 62, 63, 64, 65, 66] (by decide +kernel) (by decide +kernel)
set_option maxRecDepth 20000 in
theorem gX9_auction_X9_partOf : GoodIn wsX9_auction (wsV RX9 105 RX9 yX9_partOf wsX9_partOf) := goodIn_app (goodIn_of _ (by decide +kernel)) ggX9_auction_X9_partOf
set_option maxRecDepth 20000 in
theorem ggX9_auction_X9_goes : GoodIn wsX9_auction wsX9_goes := goodIn_r _ [31, 14, 15, 16, 32, 33, 34, 35, 36, 37, 38, 39, 40, 41, 42, 43, 44, 45, 46, 47, 48, 49, 50, 51, 52, 53, 54, 55, 56, 57, 58, 59, 60, 61, 62, 63, 64, 65, 66] (by decide +kernel) (by decide +kernel)
set_option maxRecDepth 20000 in
theorem gX9_auction_X9_goes : GoodIn wsX9_auction (wsV RX9 140 RX9 yX9_goes wsX9_goes) := goodIn_app (goodIn_of _ (by decide +kernel)) ggX9_auction_X9_goes
theorem dX9_auction_0 : decode cX9_auction 0 = .ok (.aload_n 0, 1) := by decide +kernel
theorem dX9_auction_1 : decode cX9_auction 1 = .ok (.iconst (-1), 1) := by decide +kernel
theorem dX9_auction_2 : decode cX9_auction 2 = .ok (.invokevirtual 137, 3) := by decide +kernel
theorem dX9_auction_5 : decode cX9_auction 5 = .ok (.istore_n 1, 1) := by decide +kernel
theorem dX9_auction_6 : decode cX9_auction 6 = .ok (.iload_n 1, 1) := by decide +kernel
theorem dX9_auction_7 : decode cX9_auction 7 = .ok (.ifCond .ne 5, 3) := by decide +kernel
theorem dX9_auction_10 : decode cX9_auction 10 = .ok (.iconst (-1), 1) := by decide +kernel
theorem dX9_auction_11 : decode cX9_auction 11 = .ok (.ireturn, 1) := by decide +kernel
theorem dX9_auction_12 : decode cX9_auction 12 = .ok (.aload_n 0, 1) := by decide +kernel
theorem dX9_auction_13 : decode cX9_auction 13 = .ok (.aload_n 0, 1) := by decide +kernel
theorem dX9_auction_14 : decode cX9_auction 14 = .ok (.getfield 113, 3) := by decide +kernel
theorem dX9_auction_17 : decode cX9_auction 17 = .ok (.iconst 1, 1) := by decide +kernel
theorem dX9_auction_18 : decode cX9_auction 18 = .ok (.bipush 100, 2) := by decide +kernel
theorem dX9_auction_20 : decode cX9_auction 20 = .ok (.invokevirtual 105, 3) := by decide +kernel
theorem dX9_auction_23 : decode cX9_auction 23 = .ok (.istore_n 2, 1) := by decide +kernel
theorem dX9_auction_24 : decode cX9_auction 24 = .ok (.iload_n 2, 1) := by decide +kernel
theorem dX9_auction_25 : decode cX9_auction 25 = .ok (.istore_n 3, 1) := by decide +kernel
theorem dX9_auction_26 : decode cX9_auction 26 = .ok (.iconst 0, 1) := by decide +kernel
theorem dX9_auction_27 : decode cX9_auction 27 = .ok (.istore 4, 2) := by decide +kernel
theorem dX9_auction_29 : decode cX9_auction 29 = .ok (.iload 4, 2) := by decide +kernel
theorem dX9_auction_31 : decode cX9_auction 31 = .ok (.aload_n 0, 1) := by decide +kernel
theorem dX9_auction_32 : decode cX9_auction 32 = .ok (.getfield 134, 3) := by decide +kernel
theorem dX9_auction_35 : decode cX9_auction 35 = .ok (.if_icmp .ge 17, 3) := by decide +kernel
theorem dX9_auction_38 : decode cX9_auction 38 = .ok (.aload_n 0, 1) := by decide +kernel
theorem dX9_auction_39 : decode cX9_auction 39 = .ok (.getfield 81, 3) := by decide +kernel
theorem dX9_auction_42 : decode cX9_auction 42 = .ok (.iload 4, 2) := by decide +kernel
theorem dX9_auction_44 : decode cX9_auction 44 = .ok (.iconst 0, 1) := by decide +kernel
theorem dX9_auction_45 : decode cX9_auction 45 = .ok (.iastore, 1) := by decide +kernel
theorem dX9_auction_46 : decode cX9_auction 46 = .ok (.iinc 4 1, 3) := by decide +kernel
theorem dX9_auction_49 : decode cX9_auction 49 = .ok (.goto (-20), 3) := by decide +kernel
theorem dX9_auction_52 : decode cX9_auction 52 = .ok (.sipush 999, 3) := by decide +kernel
theorem dX9_auction_55 : decode cX9_auction 55 = .ok (.istore 4, 2) := by decide +kernel
theorem dX9_auction_57 : decode cX9_auction 57 = .ok (.iload 4, 2) := by decide +kernel
theorem dX9_auction_59 : decode cX9_auction 59 = .ok (.iload_n 2, 1) := by decide +kernel
theorem dX9_auction_60 : decode cX9_auction 60 = .ok (.if_icmp .lt 111, 3) := by decide +kernel
theorem dX9_auction_63 : decode cX9_auction 63 = .ok (.iconst 0, 1) := by decide +kernel
theorem dX9_auction_64 : decode cX9_auction 64 = .ok (.istore 5, 2) := by decide +kernel
theorem dX9_auction_66 : decode cX9_auction 66 = .ok (.iload 5, 2) := by decide +kernel
theorem dX9_auction_68 : decode cX9_auction 68 = .ok (.aload_n 0, 1) := by decide +kernel
theorem dX9_auction_69 : decode cX9_auction 69 = .ok (.getfield 134, 3) := by decide +kernel
theorem dX9_auction_72 : decode cX9_auction 72 = .ok (.if_icmp .ge 93, 3) := by decide +kernel
theorem dX9_auction_75 : decode cX9_auction 75 = .ok (.aload_n 0, 1) := by decide +kernel
theorem dX9_auction_76 : decode cX9_auction 76 = .ok (.getfield 59, 3) := by decide +kernel
theorem dX9_auction_79 : decode cX9_auction 79 = .ok (.iload 5, 2) := by decide +kernel
theorem dX9_auction_81 : decode cX9_auction 81 = .ok (.iaload, 1) := by decide +kernel
theorem dX9_auction_82 : decode cX9_auction 82 = .ok (.iload 4, 2) := by decide +kernel
theorem dX9_auction_84 : decode cX9_auction 84 = .ok (.if_icmp .ne 75, 3) := by decide +kernel
theorem dX9_auction_87 : decode cX9_auction 87 = .ok (.iload_n 1, 1) := by decide +kernel
theorem dX9_auction_88 : decode cX9_auction 88 = .ok (.ifCond .ne 6, 3) := by decide +kernel
theorem dX9_auction_91 : decode cX9_auction 91 = .ok (.goto 68, 3) := by decide +kernel
theorem dX9_auction_94 : decode cX9_auction 94 = .ok (.aload_n 0, 1) := by decide +kernel
theorem dX9_auction_95 : decode cX9_auction 95 = .ok (.getfield 81, 3) := by decide +kernel
theorem dX9_auction_98 : decode cX9_auction 98 = .ok (.iload 5, 2) := by decide +kernel
theorem dX9_auction_100 : decode cX9_auction 100 = .ok (.aload_n 0, 1) := by decide +kernel
theorem dX9_auction_101 : decode cX9_auction 101 = .ok (.getfield 56, 3) := by decide +kernel
theorem dX9_auction_104 : decode cX9_auction 104 = .ok (.iload 5, 2) := by decide +kernel
theorem dX9_auction_106 : decode cX9_auction 106 = .ok (.iaload, 1) := by decide +kernel
theorem dX9_auction_107 : decode cX9_auction 107 = .ok (.iload_n 1, 1) := by decide +kernel
theorem dX9_auction_108 : decode cX9_auction 108 = .ok (.if_icmp .ge 13, 3) := by decide +kernel
theorem dX9_auction_111 : decode cX9_auction 111 = .ok (.aload_n 0, 1) := by decide +kernel
theorem dX9_auction_112 : decode cX9_auction 112 = .ok (.getfield 56, 3) := by decide +kernel
theorem dX9_auction_115 : decode cX9_auction 115 = .ok (.iload 5, 2) := by decide +kernel
theorem dX9_auction_117 : decode cX9_auction 117 = .ok (.iaload, 1) := by decide +kernel
theorem dX9_auction_118 : decode cX9_auction 118 = .ok (.goto 4, 3) := by decide +kernel
theorem dX9_auction_121 : decode cX9_auction 121 = .ok (.iload_n 1, 1) := by decide +kernel
theorem dX9_auction_122 : decode cX9_auction 122 = .ok (.iastore, 1) := by decide +kernel
theorem dX9_auction_123 : decode cX9_auction 123 = .ok (.iload_n 1, 1) := by decide +kernel
theorem dX9_auction_124 : decode cX9_auction 124 = .ok (.aload_n 0, 1) := by decide +kernel
theorem dX9_auction_125 : decode cX9_auction 125 = .ok (.getfield 81, 3) := by decide +kernel
theorem dX9_auction_128 : decode cX9_auction 128 = .ok (.iload 5, 2) := by decide +kernel
theorem dX9_auction_130 : decode cX9_auction 130 = .ok (.iaload, 1) := by decide +kernel
theorem dX9_auction_131 : decode cX9_auction 131 = .ok (.isub, 1) := by decide +kernel
theorem dX9_auction_132 : decode cX9_auction 132 = .ok (.istore_n 1, 1) := by decide +kernel
theorem dX9_auction_133 : decode cX9_auction 133 = .ok (.aload_n 0, 1) := by decide +kernel
theorem dX9_auction_134 : decode cX9_auction 134 = .ok (.iconst (-1), 1) := by decide +kernel
theorem dX9_auction_135 : decode cX9_auction 135 = .ok (.aload_n 0, 1) := by decide +kernel
theorem dX9_auction_136 : decode cX9_auction 136 = .ok (.getfield 53, 3) := by decide +kernel
theorem dX9_auction_139 : decode cX9_auction 139 = .ok (.iload 5, 2) := by decide +kernel
theorem dX9_auction_141 : decode cX9_auction 141 = .ok (.iaload, 1) := by decide +kernel
theorem dX9_auction_142 : decode cX9_auction 142 = .ok (.aload_n 0, 1) := by decide +kernel
theorem dX9_auction_143 : decode cX9_auction 143 = .ok (.getfield 81, 3) := by decide +kernel
theorem dX9_auction_146 : decode cX9_auction 146 = .ok (.iload 5, 2) := by decide +kernel
theorem dX9_auction_148 : decode cX9_auction 148 = .ok (.iaload, 1) := by decide +kernel
theorem dX9_auction_149 : decode cX9_auction 149 = .ok (.invokevirtual 140, 3) := by decide +kernel
theorem dX9_auction_152 : decode cX9_auction 152 = .ok (.iload_n 1, 1) := by decide +kernel
theorem dX9_auction_153 : decode cX9_auction 153 = .ok (.ifCond .ne 6, 3) := by decide +kernel
theorem dX9_auction_156 : decode cX9_auction 156 = .ok (.iload 4, 2) := by decide +kernel
theorem dX9_auction_158 : decode cX9_auction 158 = .ok (.istore_n 3, 1) := by decide +kernel
theorem dX9_auction_159 : decode cX9_auction 159 = .ok (.iinc 5 1, 3) := by decide +kernel
theorem dX9_auction_162 : decode cX9_auction 162 = .ok (.goto (-96), 3) := by decide +kernel
theorem dX9_auction_165 : decode cX9_auction 165 = .ok (.iinc 4 (-1), 3) := by decide +kernel
theorem dX9_auction_168 : decode cX9_auction 168 = .ok (.goto (-111), 3) := by decide +kernel
theorem dX9_auction_171 : decode cX9_auction 171 = .ok (.iconst 0, 1) := by decide +kernel
theorem dX9_auction_172 : decode cX9_auction 172 = .ok (.istore 4, 2) := by decide +kernel
theorem dX9_auction_174 : decode cX9_auction 174 = .ok (.iload 4, 2) := by decide +kernel
theorem dX9_auction_176 : decode cX9_auction 176 = .ok (.aload_n 0, 1) := by decide +kernel
theorem dX9_auction_177 : decode cX9_auction 177 = .ok (.getfield 134, 3) := by decide +kernel
theorem dX9_auction_180 : decode cX9_auction 180 = .ok (.if_icmp .ge 51, 3) := by decide +kernel
theorem dX9_auction_183 : decode cX9_auction 183 = .ok (.aload_n 0, 1) := by decide +kernel
theorem dX9_auction_184 : decode cX9_auction 184 = .ok (.getfield 9, 3) := by decide +kernel
theorem dX9_auction_187 : decode cX9_auction 187 = .ok (.aload_n 0, 1) := by decide +kernel
theorem dX9_auction_188 : decode cX9_auction 188 = .ok (.getfield 53, 3) := by decide +kernel
theorem dX9_auction_191 : decode cX9_auction 191 = .ok (.iload 4, 2) := by decide +kernel
theorem dX9_auction_193 : decode cX9_auction 193 = .ok (.iaload, 1) := by decide +kernel
theorem dX9_auction_194 : decode cX9_auction 194 = .ok (.dup2, 1) := by decide +kernel
theorem dX9_auction_195 : decode cX9_auction 195 = .ok (.iaload, 1) := by decide +kernel
theorem dX9_auction_196 : decode cX9_auction 196 = .ok (.aload_n 0, 1) := by decide +kernel
theorem dX9_auction_197 : decode cX9_auction 197 = .ok (.getfield 81, 3) := by decide +kernel
theorem dX9_auction_200 : decode cX9_auction 200 = .ok (.iload 4, 2) := by decide +kernel
theorem dX9_auction_202 : decode cX9_auction 202 = .ok (.iaload, 1) := by decide +kernel
theorem dX9_auction_203 : decode cX9_auction 203 = .ok (.iload_n 3, 1) := by decide +kernel
theorem dX9_auction_204 : decode cX9_auction 204 = .ok (.imul, 1) := by decide +kernel
theorem dX9_auction_205 : decode cX9_auction 205 = .ok (.isub, 1) := by decide +kernel
theorem dX9_auction_206 : decode cX9_auction 206 = .ok (.iastore, 1) := by decide +kernel
theorem dX9_auction_207 : decode cX9_auction 207 = .ok (.aload_n 0, 1) := by decide +kernel
theorem dX9_auction_208 : decode cX9_auction 208 = .ok (.dup, 1) := by decide +kernel
theorem dX9_auction_209 : decode cX9_auction 209 = .ok (.getfield 144, 3) := by decide +kernel
theorem dX9_auction_212 : decode cX9_auction 212 = .ok (.aload_n 0, 1) := by decide +kernel
theorem dX9_auction_213 : decode cX9_auction 213 = .ok (.getfield 81, 3) := by decide +kernel
theorem dX9_auction_216 : decode cX9_auction 216 = .ok (.iload 4, 2) := by decide +kernel
theorem dX9_auction_218 : decode cX9_auction 218 = .ok (.iaload, 1) := by decide +kernel
theorem dX9_auction_219 : decode cX9_auction 219 = .ok (.iload_n 3, 1) := by decide +kernel
theorem dX9_auction_220 : decode cX9_auction 220 = .ok (.imul, 1) := by decide +kernel
theorem dX9_auction_221 : decode cX9_auction 221 = .ok (.iadd, 1) := by decide +kernel
theorem dX9_auction_222 : decode cX9_auction 222 = .ok (.putfield 144, 3) := by decide +kernel
theorem dX9_auction_225 : decode cX9_auction 225 = .ok (.iinc 4 1, 3) := by decide +kernel
theorem dX9_auction_228 : decode cX9_auction 228 = .ok (.goto (-54), 3) := by decide +kernel
theorem dX9_auction_231 : decode cX9_auction 231 = .ok (.aload_n 0, 1) := by decide +kernel
theorem dX9_auction_232 : decode cX9_auction 232 = .ok (.iconst 0, 1) := by decide +kernel
theorem dX9_auction_233 : decode cX9_auction 233 = .ok (.putfield 134, 3) := by decide +kernel
theorem dX9_auction_236 : decode cX9_auction 236 = .ok (.iload_n 3, 1) := by decide +kernel
theorem dX9_auction_237 : decode cX9_auction 237 = .ok (.ireturn, 1) := by decide +kernel
set_option maxRecDepth 20000 in
theorem ggX9_trade_X9_isWorks : GoodIn wsX9_trade wsX9_isWorks := goodIn_r _ [7, 8, 9, 10, 6, 11, 24, 25, 26, 27, 28, 29, 30, 31, 32, 33, 34, 35, 36, 37, 38, 39, 40, 41, 42, 43, 44, 45, 46, 47, 48, 49, 50, 51, 52, 53, 54, 55, 56, 57] (by decide +kernel) (by decide +kernel)
set_option maxRecDepth 20000 in
theorem gX9_trade_X9_isWorks : GoodIn wsX9_trade (wsV RX9 109 RX9 yX9_isWorks wsX9_isWorks) := goodIn_app (goodIn_of _ (by decide +kernel)) ggX9_trade_X9_isWorks
set_option maxRecDepth 20000 in
theorem ggX9_trade_X9_holds : GoodIn wsX9_trade wsX9_holds := goodIn_r _ [15, 16, 17, 18, 24, 25, 26, 27, 28, 29, 30, 31, 32, 33, 34, 35, 36, 37, 38, 39, 40, 41, 42, 43, 44, 45, 46, 47, 48, 49, 50, 51, 52, 53, 54, 55, 56, 57] (by decide +kernel) (by decide +kernel)
set_option maxRecDepth 20000 in
theorem gX9_trade_X9_holds : GoodIn wsX9_trade (wsV RX9 137 RX9 yX9_holds wsX9_holds) := goodIn_app (goodIn_of _ (by decide +kernel)) ggX9_trade_X9_holds
set_option maxRecDepth 20000 in
theorem ggX9_trade_X9_in : GoodIn wsX9_trade wsX9_in := goodIn_r _ [11] (by decide +kernel) (by decide +kernel)
set_option maxRecDepth 20000 in
theorem gX9_trade_X9_in : GoodIn wsX9_trade (va_wsS RX9 90 yX9_in wsX9_in) := goodIn_app (goodIn_of _ (by decide +kernel)) ggX9_trade_X9_in
set_option maxRecDepth 20000 in
theorem ggX9_trade_X9_goes : GoodIn wsX9_trade wsX9_goes := goodIn_r _ [22, 16, 17, 18, 23, 24, 25, 26, 27, 28, 29, 30, 31, 32, 33, 34, 35, 36, 37, 38, 39, 40, 41, 42, 43, 44, 45, 46, 47, 48, 49, 50, 51, 52, 53, 54, 55, 56, 57] (by decide +kernel) (by decide +kernel)
set_option maxRecDepth 20000 in
theorem gX9_trade_X9_goes : GoodIn wsX9_trade (wsV RX9 140 RX9 yX9_goes wsX9_goes) := goodIn_app (goodIn_of _ (by decide +kernel)) ggX9_trade_X9_goes
theorem dX9_trade_0 : decode cX9_trade 0 = .ok (.aload_n 0, 1) := by decide +kernel
theorem dX9_trade_1 : decode cX9_trade 1 = .ok (.iload_n 1, 1) := by decide +kernel
theorem dX9_trade_2 : decode cX9_trade 2 = .ok (.invokevirtual 109, 3) := by decide +kernel
theorem dX9_trade_5 : decode cX9_trade 5 = .ok (.ifCond .eq 41, 3) := by decide +kernel
theorem dX9_trade_8 : decode cX9_trade 8 = .ok (.aload_n 0, 1) := by decide +kernel
theorem dX9_trade_9 : decode cX9_trade 9 = .ok (.iload_n 2, 1) := by decide +kernel
theorem dX9_trade_10 : decode cX9_trade 10 = .ok (.invokevirtual 109, 3) := by decide +kernel
theorem dX9_trade_13 : decode cX9_trade 13 = .ok (.ifCond .eq 33, 3) := by decide +kernel
theorem dX9_trade_16 : decode cX9_trade 16 = .ok (.iload_n 1, 1) := by decide +kernel
theorem dX9_trade_17 : decode cX9_trade 17 = .ok (.iload_n 2, 1) := by decide +kernel
theorem dX9_trade_18 : decode cX9_trade 18 = .ok (.if_icmp .eq 28, 3) := by decide +kernel
theorem dX9_trade_21 : decode cX9_trade 21 = .ok (.iload_n 3, 1) := by decide +kernel
theorem dX9_trade_22 : decode cX9_trade 22 = .ok (.iconst 1, 1) := by decide +kernel
theorem dX9_trade_23 : decode cX9_trade 23 = .ok (.if_icmp .lt 23, 3) := by decide +kernel
theorem dX9_trade_26 : decode cX9_trade 26 = .ok (.iload_n 3, 1) := by decide +kernel
theorem dX9_trade_27 : decode cX9_trade 27 = .ok (.aload_n 0, 1) := by decide +kernel
theorem dX9_trade_28 : decode cX9_trade 28 = .ok (.iload_n 1, 1) := by decide +kernel
theorem dX9_trade_29 : decode cX9_trade 29 = .ok (.invokevirtual 137, 3) := by decide +kernel
theorem dX9_trade_32 : decode cX9_trade 32 = .ok (.if_icmp .gt 14, 3) := by decide +kernel
theorem dX9_trade_35 : decode cX9_trade 35 = .ok (.iload 4, 2) := by decide +kernel
theorem dX9_trade_37 : decode cX9_trade 37 = .ok (.iconst 0, 1) := by decide +kernel
theorem dX9_trade_38 : decode cX9_trade 38 = .ok (.ldc 94, 2) := by decide +kernel
theorem dX9_trade_40 : decode cX9_trade 40 = .ok (.invokestatic 90, 3) := by decide +kernel
theorem dX9_trade_43 : decode cX9_trade 43 = .ok (.ifCond .ne 5, 3) := by decide +kernel
theorem dX9_trade_46 : decode cX9_trade 46 = .ok (.iconst 0, 1) := by decide +kernel
theorem dX9_trade_47 : decode cX9_trade 47 = .ok (.ireturn, 1) := by decide +kernel
theorem dX9_trade_48 : decode cX9_trade 48 = .ok (.aload_n 0, 1) := by decide +kernel
theorem dX9_trade_49 : decode cX9_trade 49 = .ok (.iload_n 1, 1) := by decide +kernel
theorem dX9_trade_50 : decode cX9_trade 50 = .ok (.iload_n 2, 1) := by decide +kernel
theorem dX9_trade_51 : decode cX9_trade 51 = .ok (.iload_n 3, 1) := by decide +kernel
theorem dX9_trade_52 : decode cX9_trade 52 = .ok (.invokevirtual 140, 3) := by decide +kernel
theorem dX9_trade_55 : decode cX9_trade 55 = .ok (.aload_n 0, 1) := by decide +kernel
theorem dX9_trade_56 : decode cX9_trade 56 = .ok (.getfield 9, 3) := by decide +kernel
theorem dX9_trade_59 : decode cX9_trade 59 = .ok (.iload_n 1, 1) := by decide +kernel
theorem dX9_trade_60 : decode cX9_trade 60 = .ok (.dup2, 1) := by decide +kernel
theorem dX9_trade_61 : decode cX9_trade 61 = .ok (.iaload, 1) := by decide +kernel
theorem dX9_trade_62 : decode cX9_trade 62 = .ok (.iload 4, 2) := by decide +kernel
theorem dX9_trade_64 : decode cX9_trade 64 = .ok (.iadd, 1) := by decide +kernel
theorem dX9_trade_65 : decode cX9_trade 65 = .ok (.iastore, 1) := by decide +kernel
theorem dX9_trade_66 : decode cX9_trade 66 = .ok (.aload_n 0, 1) := by decide +kernel
theorem dX9_trade_67 : decode cX9_trade 67 = .ok (.getfield 9, 3) := by decide +kernel
theorem dX9_trade_70 : decode cX9_trade 70 = .ok (.iload_n 2, 1) := by decide +kernel
theorem dX9_trade_71 : decode cX9_trade 71 = .ok (.dup2, 1) := by decide +kernel
theorem dX9_trade_72 : decode cX9_trade 72 = .ok (.iaload, 1) := by decide +kernel
theorem dX9_trade_73 : decode cX9_trade 73 = .ok (.iload 4, 2) := by decide +kernel
theorem dX9_trade_75 : decode cX9_trade 75 = .ok (.isub, 1) := by decide +kernel
theorem dX9_trade_76 : decode cX9_trade 76 = .ok (.iastore, 1) := by decide +kernel
theorem dX9_trade_77 : decode cX9_trade 77 = .ok (.iconst 1, 1) := by decide +kernel
theorem dX9_trade_78 : decode cX9_trade 78 = .ok (.ireturn, 1) := by decide +kernel
set_option maxRecDepth 20000 in
theorem ggX9_offset_X9_isWorks : GoodIn wsX9_offset wsX9_isWorks := goodIn_r _ [8, 9, 10, 11, 7, 12, 22, 23, 24, 25, 26, 27, 28, 29, 30, 31, 32, 33, 34, 35, 36, 37, 38, 39, 40, 41, 42, 43, 44, 45, 46, 47, 48, 49, 50, 51, 52, 53, 54, 55] (by decide +kernel) (by decide +kernel)
set_option maxRecDepth 20000 in
theorem gX9_offset_X9_isWorks : GoodIn wsX9_offset (wsV RX9 109 RX9 yX9_isWorks wsX9_isWorks) := goodIn_app (goodIn_of _ (by decide +kernel)) ggX9_offset_X9_isWorks
set_option maxRecDepth 20000 in
theorem ggX9_offset_X9_in : GoodIn wsX9_offset wsX9_in := goodIn_r _ [12] (by decide +kernel) (by decide +kernel)
set_option maxRecDepth 20000 in
theorem gX9_offset_X9_in : GoodIn wsX9_offset (va_wsS RX9 90 yX9_in wsX9_in) := goodIn_app (goodIn_of _ (by decide +kernel)) ggX9_offset_X9_in
set_option maxRecDepth 20000 in
theorem ggX9_offset_X9_comes : GoodIn wsX9_offset wsX9_comes := goodIn_r _ [16, 17, 2, 18, 19, 3, 20, 21, 22, 23, 24, 25, 26, 27, 28, 29, 30, 31, 32, 33, 34, 35, 36, 37, 38, 39, 40, 41, 42, 43, 44, 45, 46, 47, 48, 49, 50, 51, 52, 53, 54, 55] (by decide +kernel) (by decide +kernel)
set_option maxRecDepth 20000 in
theorem gX9_offset_X9_comes : GoodIn wsX9_offset (wsV RX9 130 RX9 yX9_comes wsX9_comes) := goodIn_app (goodIn_of _ (by decide +kernel)) ggX9_offset_X9_comes
theorem dX9_offset_0 : decode cX9_offset 0 = .ok (.aload_n 0, 1) := by decide +kernel
theorem dX9_offset_1 : decode cX9_offset 1 = .ok (.iload_n 1, 1) := by decide +kernel
theorem dX9_offset_2 : decode cX9_offset 2 = .ok (.invokevirtual 109, 3) := by decide +kernel
theorem dX9_offset_5 : decode cX9_offset 5 = .ok (.ifCond .eq 43, 3) := by decide +kernel
theorem dX9_offset_8 : decode cX9_offset 8 = .ok (.iload_n 2, 1) := by decide +kernel
theorem dX9_offset_9 : decode cX9_offset 9 = .ok (.iconst 1, 1) := by decide +kernel
theorem dX9_offset_10 : decode cX9_offset 10 = .ok (.bipush 100, 2) := by decide +kernel
theorem dX9_offset_12 : decode cX9_offset 12 = .ok (.invokestatic 90, 3) := by decide +kernel
theorem dX9_offset_15 : decode cX9_offset 15 = .ok (.ifCond .eq 33, 3) := by decide +kernel
theorem dX9_offset_18 : decode cX9_offset 18 = .ok (.aload_n 0, 1) := by decide +kernel
theorem dX9_offset_19 : decode cX9_offset 19 = .ok (.getfield 147, 3) := by decide +kernel
theorem dX9_offset_22 : decode cX9_offset 22 = .ok (.bipush 20, 2) := by decide +kernel
theorem dX9_offset_24 : decode cX9_offset 24 = .ok (.if_icmp .eq 24, 3) := by decide +kernel
theorem dX9_offset_27 : decode cX9_offset 27 = .ok (.aload_n 0, 1) := by decide +kernel
theorem dX9_offset_28 : decode cX9_offset 28 = .ok (.getfield 120, 3) := by decide +kernel
theorem dX9_offset_31 : decode cX9_offset 31 = .ok (.iload_n 2, 1) := by decide +kernel
theorem dX9_offset_32 : decode cX9_offset 32 = .ok (.iadd, 1) := by decide +kernel
theorem dX9_offset_33 : decode cX9_offset 33 = .ok (.sipush 4000, 3) := by decide +kernel
theorem dX9_offset_36 : decode cX9_offset 36 = .ok (.if_icmp .gt 12, 3) := by decide +kernel
theorem dX9_offset_39 : decode cX9_offset 39 = .ok (.aload_n 0, 1) := by decide +kernel
theorem dX9_offset_40 : decode cX9_offset 40 = .ok (.getfield 113, 3) := by decide +kernel
theorem dX9_offset_43 : decode cX9_offset 43 = .ok (.bipush 20, 2) := by decide +kernel
theorem dX9_offset_45 : decode cX9_offset 45 = .ok (.if_icmp .ne 5, 3) := by decide +kernel
theorem dX9_offset_48 : decode cX9_offset 48 = .ok (.iconst (-1), 1) := by decide +kernel
theorem dX9_offset_49 : decode cX9_offset 49 = .ok (.ireturn, 1) := by decide +kernel
theorem dX9_offset_50 : decode cX9_offset 50 = .ok (.iconst 0, 1) := by decide +kernel
theorem dX9_offset_51 : decode cX9_offset 51 = .ok (.istore_n 3, 1) := by decide +kernel
theorem dX9_offset_52 : decode cX9_offset 52 = .ok (.iload_n 3, 1) := by decide +kernel
theorem dX9_offset_53 : decode cX9_offset 53 = .ok (.iload_n 2, 1) := by decide +kernel
theorem dX9_offset_54 : decode cX9_offset 54 = .ok (.if_icmp .ge 18, 3) := by decide +kernel
theorem dX9_offset_57 : decode cX9_offset 57 = .ok (.aload_n 0, 1) := by decide +kernel
theorem dX9_offset_58 : decode cX9_offset 58 = .ok (.iload_n 1, 1) := by decide +kernel
theorem dX9_offset_59 : decode cX9_offset 59 = .ok (.aload_n 0, 1) := by decide +kernel
theorem dX9_offset_60 : decode cX9_offset 60 = .ok (.getfield 147, 3) := by decide +kernel
theorem dX9_offset_63 : decode cX9_offset 63 = .ok (.invokevirtual 130, 3) := by decide +kernel
theorem dX9_offset_66 : decode cX9_offset 66 = .ok (.iinc 3 1, 3) := by decide +kernel
theorem dX9_offset_69 : decode cX9_offset 69 = .ok (.goto (-17), 3) := by decide +kernel
theorem dX9_offset_72 : decode cX9_offset 72 = .ok (.aload_n 0, 1) := by decide +kernel
theorem dX9_offset_73 : decode cX9_offset 73 = .ok (.dup, 1) := by decide +kernel
theorem dX9_offset_74 : decode cX9_offset 74 = .ok (.getfield 147, 3) := by decide +kernel
theorem dX9_offset_77 : decode cX9_offset 77 = .ok (.iconst 1, 1) := by decide +kernel
theorem dX9_offset_78 : decode cX9_offset 78 = .ok (.iadd, 1) := by decide +kernel
theorem dX9_offset_79 : decode cX9_offset 79 = .ok (.putfield 147, 3) := by decide +kernel
theorem dX9_offset_82 : decode cX9_offset 82 = .ok (.aload_n 0, 1) := by decide +kernel
theorem dX9_offset_83 : decode cX9_offset 83 = .ok (.getfield 147, 3) := by decide +kernel
theorem dX9_offset_86 : decode cX9_offset 86 = .ok (.iconst 1, 1) := by decide +kernel
theorem dX9_offset_87 : decode cX9_offset 87 = .ok (.isub, 1) := by decide +kernel
theorem dX9_offset_88 : decode cX9_offset 88 = .ok (.ireturn, 1) := by decide +kernel
set_option maxRecDepth 20000 in
theorem ggX9_falses_X9_in : GoodIn wsX9_falses wsX9_in := goodIn_r _ [11] (by decide +kernel) (by decide +kernel)
set_option maxRecDepth 20000 in
theorem gX9_falses_X9_in : GoodIn wsX9_falses (va_wsS RX9 90 yX9_in wsX9_in) := goodIn_app (goodIn_of _ (by decide +kernel)) ggX9_falses_X9_in
theorem dX9_falses_0 : decode cX9_falses 0 = .ok (.iload_n 1, 1) := by decide +kernel
theorem dX9_falses_1 : decode cX9_falses 1 = .ok (.iconst 0, 1) := by decide +kernel
theorem dX9_falses_2 : decode cX9_falses 2 = .ok (.aload_n 0, 1) := by decide +kernel
theorem dX9_falses_3 : decode cX9_falses 3 = .ok (.getfield 147, 3) := by decide +kernel
theorem dX9_falses_6 : decode cX9_falses 6 = .ok (.iconst 1, 1) := by decide +kernel
theorem dX9_falses_7 : decode cX9_falses 7 = .ok (.isub, 1) := by decide +kernel
theorem dX9_falses_8 : decode cX9_falses 8 = .ok (.invokestatic 90, 3) := by decide +kernel
theorem dX9_falses_11 : decode cX9_falses 11 = .ok (.ifCond .eq 12, 3) := by decide +kernel
theorem dX9_falses_14 : decode cX9_falses 14 = .ok (.aload_n 0, 1) := by decide +kernel
theorem dX9_falses_15 : decode cX9_falses 15 = .ok (.getfield 62, 3) := by decide +kernel
theorem dX9_falses_18 : decode cX9_falses 18 = .ok (.iload_n 1, 1) := by decide +kernel
theorem dX9_falses_19 : decode cX9_falses 19 = .ok (.baload, 1) := by decide +kernel
theorem dX9_falses_20 : decode cX9_falses 20 = .ok (.ifCond .eq 5, 3) := by decide +kernel
theorem dX9_falses_23 : decode cX9_falses 23 = .ok (.iconst (-1), 1) := by decide +kernel
theorem dX9_falses_24 : decode cX9_falses 24 = .ok (.ireturn, 1) := by decide +kernel
theorem dX9_falses_25 : decode cX9_falses 25 = .ok (.aload_n 0, 1) := by decide +kernel
theorem dX9_falses_26 : decode cX9_falses 26 = .ok (.getfield 62, 3) := by decide +kernel
theorem dX9_falses_29 : decode cX9_falses 29 = .ok (.iload_n 1, 1) := by decide +kernel
theorem dX9_falses_30 : decode cX9_falses 30 = .ok (.iconst 1, 1) := by decide +kernel
theorem dX9_falses_31 : decode cX9_falses 31 = .ok (.bastore, 1) := by decide +kernel
theorem dX9_falses_32 : decode cX9_falses 32 = .ok (.iconst 0, 1) := by decide +kernel
theorem dX9_falses_33 : decode cX9_falses 33 = .ok (.istore_n 2, 1) := by decide +kernel
theorem dX9_falses_34 : decode cX9_falses 34 = .ok (.iconst 0, 1) := by decide +kernel
theorem dX9_falses_35 : decode cX9_falses 35 = .ok (.istore_n 3, 1) := by decide +kernel
theorem dX9_falses_36 : decode cX9_falses 36 = .ok (.iload_n 3, 1) := by decide +kernel
theorem dX9_falses_37 : decode cX9_falses 37 = .ok (.aload_n 0, 1) := by decide +kernel
theorem dX9_falses_38 : decode cX9_falses 38 = .ok (.getfield 120, 3) := by decide +kernel
theorem dX9_falses_41 : decode cX9_falses 41 = .ok (.if_icmp .ge 59, 3) := by decide +kernel
theorem dX9_falses_44 : decode cX9_falses 44 = .ok (.aload_n 0, 1) := by decide +kernel
theorem dX9_falses_45 : decode cX9_falses 45 = .ok (.getfield 43, 3) := by decide +kernel
theorem dX9_falses_48 : decode cX9_falses 48 = .ok (.iload_n 3, 1) := by decide +kernel
theorem dX9_falses_49 : decode cX9_falses 49 = .ok (.iaload, 1) := by decide +kernel
theorem dX9_falses_50 : decode cX9_falses 50 = .ok (.iload_n 1, 1) := by decide +kernel
theorem dX9_falses_51 : decode cX9_falses 51 = .ok (.if_icmp .eq 6, 3) := by decide +kernel
theorem dX9_falses_54 : decode cX9_falses 54 = .ok (.goto 40, 3) := by decide +kernel
theorem dX9_falses_57 : decode cX9_falses 57 = .ok (.aload_n 0, 1) := by decide +kernel
theorem dX9_falses_58 : decode cX9_falses 58 = .ok (.getfield 31, 3) := by decide +kernel
theorem dX9_falses_61 : decode cX9_falses 61 = .ok (.iload_n 3, 1) := by decide +kernel
theorem dX9_falses_62 : decode cX9_falses 62 = .ok (.iaload, 1) := by decide +kernel
theorem dX9_falses_63 : decode cX9_falses 63 = .ok (.ifCond .ne 13, 3) := by decide +kernel
theorem dX9_falses_66 : decode cX9_falses 66 = .ok (.aload_n 0, 1) := by decide +kernel
theorem dX9_falses_67 : decode cX9_falses 67 = .ok (.getfield 31, 3) := by decide +kernel
theorem dX9_falses_70 : decode cX9_falses 70 = .ok (.iload_n 3, 1) := by decide +kernel
theorem dX9_falses_71 : decode cX9_falses 71 = .ok (.iconst 3, 1) := by decide +kernel
theorem dX9_falses_72 : decode cX9_falses 72 = .ok (.iastore, 1) := by decide +kernel
theorem dX9_falses_73 : decode cX9_falses 73 = .ok (.goto 21, 3) := by decide +kernel
theorem dX9_falses_76 : decode cX9_falses 76 = .ok (.aload_n 0, 1) := by decide +kernel
theorem dX9_falses_77 : decode cX9_falses 77 = .ok (.getfield 13, 3) := by decide +kernel
theorem dX9_falses_80 : decode cX9_falses 80 = .ok (.aload_n 0, 1) := by decide +kernel
theorem dX9_falses_81 : decode cX9_falses 81 = .ok (.getfield 34, 3) := by decide +kernel
theorem dX9_falses_84 : decode cX9_falses 84 = .ok (.iload_n 3, 1) := by decide +kernel
theorem dX9_falses_85 : decode cX9_falses 85 = .ok (.iaload, 1) := by decide +kernel
theorem dX9_falses_86 : decode cX9_falses 86 = .ok (.dup2, 1) := by decide +kernel
theorem dX9_falses_87 : decode cX9_falses 87 = .ok (.iaload, 1) := by decide +kernel
theorem dX9_falses_88 : decode cX9_falses 88 = .ok (.iconst 1, 1) := by decide +kernel
theorem dX9_falses_89 : decode cX9_falses 89 = .ok (.iadd, 1) := by decide +kernel
theorem dX9_falses_90 : decode cX9_falses 90 = .ok (.iastore, 1) := by decide +kernel
theorem dX9_falses_91 : decode cX9_falses 91 = .ok (.iinc 2 1, 3) := by decide +kernel
theorem dX9_falses_94 : decode cX9_falses 94 = .ok (.iinc 3 1, 3) := by decide +kernel
theorem dX9_falses_97 : decode cX9_falses 97 = .ok (.goto (-61), 3) := by decide +kernel
theorem dX9_falses_100 : decode cX9_falses 100 = .ok (.iload_n 2, 1) := by decide +kernel
theorem dX9_falses_101 : decode cX9_falses 101 = .ok (.ireturn, 1) := by decide +kernel
set_option maxRecDepth 20000 in
theorem ggX9_cancel_X9_isWorks : GoodIn wsX9_cancel wsX9_isWorks := goodIn_r _ [5, 6, 7, 8, 4, 9, 23, 24, 25, 26, 27, 28, 29, 30, 31, 32, 33, 34, 35, 36, 37, 38, 39, 40, 41, 42, 43, 44, 45, 46, 47, 48, 49, 50, 51, 52, 53, 54, 55, 56] (by decide +kernel) (by decide +kernel)
set_option maxRecDepth 20000 in
theorem gX9_cancel_X9_isWorks : GoodIn wsX9_cancel (wsV RX9 109 RX9 yX9_isWorks wsX9_isWorks) := goodIn_app (goodIn_of _ (by decide +kernel)) ggX9_cancel_X9_isWorks
set_option maxRecDepth 20000 in
theorem ggX9_cancel_X9_holds : GoodIn wsX9_cancel wsX9_holds := goodIn_r _ [13, 14, 15, 16, 23, 24, 25, 26, 27, 28, 29, 30, 31, 32, 33, 34, 35, 36, 37, 38, 39, 40, 41, 42, 43, 44, 45, 46, 47, 48, 49, 50, 51, 52, 53, 54, 55, 56] (by decide +kernel) (by decide +kernel)
set_option maxRecDepth 20000 in
theorem gX9_cancel_X9_holds : GoodIn wsX9_cancel (wsV RX9 137 RX9 yX9_holds wsX9_holds) := goodIn_app (goodIn_of _ (by decide +kernel)) ggX9_cancel_X9_holds
set_option maxRecDepth 20000 in
theorem ggX9_cancel_X9_ends : GoodIn wsX9_cancel wsX9_ends := goodIn_r _ [20, 14, 15, 16, 21, 22, 23, 24, 25, 26, 27, 28, 29, 30, 31, 32, 33, 34, 35, 36, 37, 38, 39, 40, 41, 42, 43, 44, 45, 46, 47, 48, 49, 50, 51, 52, 53, 54, 55, 56] (by decide +kernel) (by decide +kernel)
set_option maxRecDepth 20000 in
theorem gX9_cancel_X9_ends : GoodIn wsX9_cancel (wsV RX9 150 RX9 yX9_ends wsX9_ends) := goodIn_app (goodIn_of _ (by decide +kernel)) ggX9_cancel_X9_ends
theorem dX9_cancel_0 : decode cX9_cancel 0 = .ok (.aload_n 0, 1) := by decide +kernel
theorem dX9_cancel_1 : decode cX9_cancel 1 = .ok (.iload_n 1, 1) := by decide +kernel
theorem dX9_cancel_2 : decode cX9_cancel 2 = .ok (.invokevirtual 109, 3) := by decide +kernel
theorem dX9_cancel_5 : decode cX9_cancel 5 = .ok (.ifCond .eq 17, 3) := by decide +kernel
theorem dX9_cancel_8 : decode cX9_cancel 8 = .ok (.iload_n 2, 1) := by decide +kernel
theorem dX9_cancel_9 : decode cX9_cancel 9 = .ok (.iconst 1, 1) := by decide +kernel
theorem dX9_cancel_10 : decode cX9_cancel 10 = .ok (.if_icmp .lt 12, 3) := by decide +kernel
theorem dX9_cancel_13 : decode cX9_cancel 13 = .ok (.iload_n 2, 1) := by decide +kernel
theorem dX9_cancel_14 : decode cX9_cancel 14 = .ok (.aload_n 0, 1) := by decide +kernel
theorem dX9_cancel_15 : decode cX9_cancel 15 = .ok (.iload_n 1, 1) := by decide +kernel
theorem dX9_cancel_16 : decode cX9_cancel 16 = .ok (.invokevirtual 137, 3) := by decide +kernel
theorem dX9_cancel_19 : decode cX9_cancel 19 = .ok (.if_icmp .le 5, 3) := by decide +kernel
theorem dX9_cancel_22 : decode cX9_cancel 22 = .ok (.iconst 0, 1) := by decide +kernel
theorem dX9_cancel_23 : decode cX9_cancel 23 = .ok (.ireturn, 1) := by decide +kernel
theorem dX9_cancel_24 : decode cX9_cancel 24 = .ok (.aload_n 0, 1) := by decide +kernel
theorem dX9_cancel_25 : decode cX9_cancel 25 = .ok (.iload_n 1, 1) := by decide +kernel
theorem dX9_cancel_26 : decode cX9_cancel 26 = .ok (.iload_n 2, 1) := by decide +kernel
theorem dX9_cancel_27 : decode cX9_cancel 27 = .ok (.iconst 2, 1) := by decide +kernel
theorem dX9_cancel_28 : decode cX9_cancel 28 = .ok (.invokevirtual 150, 3) := by decide +kernel
theorem dX9_cancel_31 : decode cX9_cancel 31 = .ok (.iconst 1, 1) := by decide +kernel
theorem dX9_cancel_32 : decode cX9_cancel 32 = .ok (.ireturn, 1) := by decide +kernel
set_option maxRecDepth 20000 in
theorem ggX9_end_X9_partOf : GoodIn wsX9_end wsX9_partOf := goodIn_r _ [10, 11, 12, 13, 14, 9, 15, 16, 17, 46, 47, 48, 49, 50, 51, 52, 53, 54, 55, 56, 57, 58, 59, 60, 61, 62, 63, 64, 65, 66, 67, 68, 69, 70, 71, 72, 73, 74, 75, 76, 77, 78, 79] (by decide +kernel) (by decide +kernel)
set_option maxRecDepth 20000 in
theorem gX9_end_X9_partOf : GoodIn wsX9_end (wsV RX9 105 RX9 yX9_partOf wsX9_partOf) := goodIn_app (goodIn_of _ (by decide +kernel)) ggX9_end_X9_partOf
set_option maxRecDepth 20000 in
theorem ggX9_end_X9_fouled : GoodIn wsX9_end wsX9_fouled := goodIn_r _ [21, 22, 23, 24, 25, 9, 26, 2, 27, 28, 29, 30, 31, 32, 33, 46, 47, 48, 49, 50, 51, 52, 53, 54, 55, 56, 57, 58, 59, 60, 61, 62, 63, 64, 65, 66, 67, 68, 69, 70, 71, 72, 73, 74, 75, 76, 77, 78, 79] (by decide +kernel) (by decide +kernel)
set_option maxRecDepth 20000 in
theorem gX9_end_X9_fouled : GoodIn wsX9_end (wsV RX9 123 RX9 yX9_fouled wsX9_fouled) := goodIn_app (goodIn_of _ (by decide +kernel)) ggX9_end_X9_fouled
set_option maxRecDepth 20000 in
theorem ggX9_end_X9_holds : GoodIn wsX9_end wsX9_holds := goodIn_r _ [37, 38, 39, 40, 46, 47, 48, 49, 50, 51, 52, 53, 54, 55, 56, 57, 58, 59, 60, 61, 62, 63, 64, 65, 66, 67, 68, 69, 70, 71, 72, 73, 74, 75, 76, 77, 78, 79] (by decide +kernel) (by decide +kernel)
set_option maxRecDepth 20000 in
theorem gX9_end_X9_holds : GoodIn wsX9_end (wsV RX9 137 RX9 yX9_holds wsX9_holds) := goodIn_app (goodIn_of _ (by decide +kernel)) ggX9_end_X9_holds
set_option maxRecDepth 20000 in
theorem ggX9_end_X9_ends : GoodIn wsX9_end wsX9_ends := goodIn_r _ [44, 38, 39, 40, 45, 1, 46, 47, 48, 49, 50, 51, 52, 53, 54, 55, 56, 57, 58, 59, 60, 61, 62, 63, 64, 65, 66, 67, 68, 69, 70, 71, 72, 73, 74, 75, 76, 77, 78, 79] (by decide +kernel) (by decide +kernel)
set_option maxRecDepth 20000 in
theorem gX9_end_X9_ends : GoodIn wsX9_end (wsV RX9 150 RX9 yX9_ends wsX9_ends) := goodIn_app (goodIn_of _ (by decide +kernel)) ggX9_end_X9_ends
theorem dX9_end_0 : decode cX9_end 0 = .ok (.aload_n 0, 1) := by decide +kernel
theorem dX9_end_1 : decode cX9_end 1 = .ok (.getfield 113, 3) := by decide +kernel
theorem dX9_end_4 : decode cX9_end 4 = .ok (.bipush 20, 2) := by decide +kernel
theorem dX9_end_6 : decode cX9_end 6 = .ok (.if_icmp .ne 5, 3) := by decide +kernel
theorem dX9_end_9 : decode cX9_end 9 = .ok (.iconst (-1), 1) := by decide +kernel
theorem dX9_end_10 : decode cX9_end 10 = .ok (.ireturn, 1) := by decide +kernel
theorem dX9_end_11 : decode cX9_end 11 = .ok (.aload_n 0, 1) := by decide +kernel
theorem dX9_end_12 : decode cX9_end 12 = .ok (.aload_n 0, 1) := by decide +kernel
theorem dX9_end_13 : decode cX9_end 13 = .ok (.getfield 113, 3) := by decide +kernel
theorem dX9_end_16 : decode cX9_end 16 = .ok (.bipush 100, 2) := by decide +kernel
theorem dX9_end_18 : decode cX9_end 18 = .ok (.sipush 1000, 3) := by decide +kernel
theorem dX9_end_21 : decode cX9_end 21 = .ok (.invokevirtual 105, 3) := by decide +kernel
theorem dX9_end_24 : decode cX9_end 24 = .ok (.istore_n 1, 1) := by decide +kernel
theorem dX9_end_25 : decode cX9_end 25 = .ok (.iconst 0, 1) := by decide +kernel
theorem dX9_end_26 : decode cX9_end 26 = .ok (.istore_n 2, 1) := by decide +kernel
theorem dX9_end_27 : decode cX9_end 27 = .ok (.iconst 0, 1) := by decide +kernel
theorem dX9_end_28 : decode cX9_end 28 = .ok (.istore_n 3, 1) := by decide +kernel
theorem dX9_end_29 : decode cX9_end 29 = .ok (.iload_n 3, 1) := by decide +kernel
theorem dX9_end_30 : decode cX9_end 30 = .ok (.aload_n 0, 1) := by decide +kernel
theorem dX9_end_31 : decode cX9_end 31 = .ok (.getfield 87, 3) := by decide +kernel
theorem dX9_end_34 : decode cX9_end 34 = .ok (.if_icmp .ge 112, 3) := by decide +kernel
theorem dX9_end_37 : decode cX9_end 37 = .ok (.aload_n 0, 1) := by decide +kernel
theorem dX9_end_38 : decode cX9_end 38 = .ok (.iload_n 3, 1) := by decide +kernel
theorem dX9_end_39 : decode cX9_end 39 = .ok (.aload_n 0, 1) := by decide +kernel
theorem dX9_end_40 : decode cX9_end 40 = .ok (.getfield 113, 3) := by decide +kernel
theorem dX9_end_43 : decode cX9_end 43 = .ok (.invokevirtual 123, 3) := by decide +kernel
theorem dX9_end_46 : decode cX9_end 46 = .ok (.aload_n 0, 1) := by decide +kernel
theorem dX9_end_47 : decode cX9_end 47 = .ok (.getfield 13, 3) := by decide +kernel
theorem dX9_end_50 : decode cX9_end 50 = .ok (.iload_n 3, 1) := by decide +kernel
theorem dX9_end_51 : decode cX9_end 51 = .ok (.iaload, 1) := by decide +kernel
theorem dX9_end_52 : decode cX9_end 52 = .ok (.iadd, 1) := by decide +kernel
theorem dX9_end_53 : decode cX9_end 53 = .ok (.istore 4, 2) := by decide +kernel
theorem dX9_end_55 : decode cX9_end 55 = .ok (.aload_n 0, 1) := by decide +kernel
theorem dX9_end_56 : decode cX9_end 56 = .ok (.iload_n 3, 1) := by decide +kernel
theorem dX9_end_57 : decode cX9_end 57 = .ok (.invokevirtual 137, 3) := by decide +kernel
theorem dX9_end_60 : decode cX9_end 60 = .ok (.istore 5, 2) := by decide +kernel
theorem dX9_end_62 : decode cX9_end 62 = .ok (.iload 4, 2) := by decide +kernel
theorem dX9_end_64 : decode cX9_end 64 = .ok (.iload 5, 2) := by decide +kernel
theorem dX9_end_66 : decode cX9_end 66 = .ok (.if_icmp .ge 8, 3) := by decide +kernel
theorem dX9_end_69 : decode cX9_end 69 = .ok (.iload 4, 2) := by decide +kernel
theorem dX9_end_71 : decode cX9_end 71 = .ok (.goto 5, 3) := by decide +kernel
theorem dX9_end_74 : decode cX9_end 74 = .ok (.iload 5, 2) := by decide +kernel
theorem dX9_end_76 : decode cX9_end 76 = .ok (.istore 6, 2) := by decide +kernel
theorem dX9_end_78 : decode cX9_end 78 = .ok (.aload_n 0, 1) := by decide +kernel
theorem dX9_end_79 : decode cX9_end 79 = .ok (.iload_n 3, 1) := by decide +kernel
theorem dX9_end_80 : decode cX9_end 80 = .ok (.iload 6, 2) := by decide +kernel
theorem dX9_end_82 : decode cX9_end 82 = .ok (.iconst 1, 1) := by decide +kernel
theorem dX9_end_83 : decode cX9_end 83 = .ok (.invokevirtual 150, 3) := by decide +kernel
theorem dX9_end_86 : decode cX9_end 86 = .ok (.aload_n 0, 1) := by decide +kernel
theorem dX9_end_87 : decode cX9_end 87 = .ok (.getfield 13, 3) := by decide +kernel
theorem dX9_end_90 : decode cX9_end 90 = .ok (.iload_n 3, 1) := by decide +kernel
theorem dX9_end_91 : decode cX9_end 91 = .ok (.iload 4, 2) := by decide +kernel
theorem dX9_end_93 : decode cX9_end 93 = .ok (.iload 6, 2) := by decide +kernel
theorem dX9_end_95 : decode cX9_end 95 = .ok (.isub, 1) := by decide +kernel
theorem dX9_end_96 : decode cX9_end 96 = .ok (.iastore, 1) := by decide +kernel
theorem dX9_end_97 : decode cX9_end 97 = .ok (.aload_n 0, 1) := by decide +kernel
theorem dX9_end_98 : decode cX9_end 98 = .ok (.getfield 9, 3) := by decide +kernel
theorem dX9_end_101 : decode cX9_end 101 = .ok (.iload_n 3, 1) := by decide +kernel
theorem dX9_end_102 : decode cX9_end 102 = .ok (.dup2, 1) := by decide +kernel
theorem dX9_end_103 : decode cX9_end 103 = .ok (.iaload, 1) := by decide +kernel
theorem dX9_end_104 : decode cX9_end 104 = .ok (.aload_n 0, 1) := by decide +kernel
theorem dX9_end_105 : decode cX9_end 105 = .ok (.getfield 13, 3) := by decide +kernel
theorem dX9_end_108 : decode cX9_end 108 = .ok (.iload_n 3, 1) := by decide +kernel
theorem dX9_end_109 : decode cX9_end 109 = .ok (.iaload, 1) := by decide +kernel
theorem dX9_end_110 : decode cX9_end 110 = .ok (.iload_n 1, 1) := by decide +kernel
theorem dX9_end_111 : decode cX9_end 111 = .ok (.imul, 1) := by decide +kernel
theorem dX9_end_112 : decode cX9_end 112 = .ok (.isub, 1) := by decide +kernel
theorem dX9_end_113 : decode cX9_end 113 = .ok (.iastore, 1) := by decide +kernel
theorem dX9_end_114 : decode cX9_end 114 = .ok (.aload_n 0, 1) := by decide +kernel
theorem dX9_end_115 : decode cX9_end 115 = .ok (.getfield 16, 3) := by decide +kernel
theorem dX9_end_118 : decode cX9_end 118 = .ok (.iload_n 3, 1) := by decide +kernel
theorem dX9_end_119 : decode cX9_end 119 = .ok (.dup2, 1) := by decide +kernel
theorem dX9_end_120 : decode cX9_end 120 = .ok (.iaload, 1) := by decide +kernel
theorem dX9_end_121 : decode cX9_end 121 = .ok (.aload_n 0, 1) := by decide +kernel
theorem dX9_end_122 : decode cX9_end 122 = .ok (.getfield 13, 3) := by decide +kernel
theorem dX9_end_125 : decode cX9_end 125 = .ok (.iload_n 3, 1) := by decide +kernel
theorem dX9_end_126 : decode cX9_end 126 = .ok (.iaload, 1) := by decide +kernel
theorem dX9_end_127 : decode cX9_end 127 = .ok (.iload_n 1, 1) := by decide +kernel
theorem dX9_end_128 : decode cX9_end 128 = .ok (.imul, 1) := by decide +kernel
theorem dX9_end_129 : decode cX9_end 129 = .ok (.iadd, 1) := by decide +kernel
theorem dX9_end_130 : decode cX9_end 130 = .ok (.iastore, 1) := by decide +kernel
theorem dX9_end_131 : decode cX9_end 131 = .ok (.iload_n 2, 1) := by decide +kernel
theorem dX9_end_132 : decode cX9_end 132 = .ok (.aload_n 0, 1) := by decide +kernel
theorem dX9_end_133 : decode cX9_end 133 = .ok (.getfield 13, 3) := by decide +kernel
theorem dX9_end_136 : decode cX9_end 136 = .ok (.iload_n 3, 1) := by decide +kernel
theorem dX9_end_137 : decode cX9_end 137 = .ok (.iaload, 1) := by decide +kernel
theorem dX9_end_138 : decode cX9_end 138 = .ok (.iadd, 1) := by decide +kernel
theorem dX9_end_139 : decode cX9_end 139 = .ok (.istore_n 2, 1) := by decide +kernel
theorem dX9_end_140 : decode cX9_end 140 = .ok (.iinc 3 1, 3) := by decide +kernel
theorem dX9_end_143 : decode cX9_end 143 = .ok (.goto (-114), 3) := by decide +kernel
theorem dX9_end_146 : decode cX9_end 146 = .ok (.aload_n 0, 1) := by decide +kernel
theorem dX9_end_147 : decode cX9_end 147 = .ok (.dup, 1) := by decide +kernel
theorem dX9_end_148 : decode cX9_end 148 = .ok (.getfield 113, 3) := by decide +kernel
theorem dX9_end_151 : decode cX9_end 151 = .ok (.iconst 1, 1) := by decide +kernel
theorem dX9_end_152 : decode cX9_end 152 = .ok (.iadd, 1) := by decide +kernel
theorem dX9_end_153 : decode cX9_end 153 = .ok (.putfield 113, 3) := by decide +kernel
theorem dX9_end_156 : decode cX9_end 156 = .ok (.iload_n 2, 1) := by decide +kernel
theorem dX9_end_157 : decode cX9_end 157 = .ok (.ireturn, 1) := by decide +kernel
set_option maxRecDepth 20000 in
theorem ggX9_permit_X9_in : GoodIn wsX9_permit wsX9_in := goodIn_r _ [12] (by decide +kernel) (by decide +kernel)
set_option maxRecDepth 20000 in
theorem gX9_permit_X9_in : GoodIn wsX9_permit (va_wsS RX9 90 yX9_in wsX9_in) := goodIn_app (goodIn_of _ (by decide +kernel)) ggX9_permit_X9_in
theorem dX9_permit_0 : decode cX9_permit 0 = .ok (.iload_n 1, 1) := by decide +kernel
theorem dX9_permit_1 : decode cX9_permit 1 = .ok (.iconst 0, 1) := by decide +kernel
theorem dX9_permit_2 : decode cX9_permit 2 = .ok (.aload_n 0, 1) := by decide +kernel
theorem dX9_permit_3 : decode cX9_permit 3 = .ok (.getfield 120, 3) := by decide +kernel
theorem dX9_permit_6 : decode cX9_permit 6 = .ok (.iconst 1, 1) := by decide +kernel
theorem dX9_permit_7 : decode cX9_permit 7 = .ok (.isub, 1) := by decide +kernel
theorem dX9_permit_8 : decode cX9_permit 8 = .ok (.invokestatic 90, 3) := by decide +kernel
theorem dX9_permit_11 : decode cX9_permit 11 = .ok (.ifCond .ne 6, 3) := by decide +kernel
theorem dX9_permit_14 : decode cX9_permit 14 = .ok (.ldc 153, 2) := by decide +kernel
theorem dX9_permit_16 : decode cX9_permit 16 = .ok (.ireturn, 1) := by decide +kernel
theorem dX9_permit_17 : decode cX9_permit 17 = .ok (.iload_n 2, 1) := by decide +kernel
theorem dX9_permit_18 : decode cX9_permit 18 = .ok (.tableswitch 94 0 5 #[38, 59, 66, 73, 80, 87], 38) := by decide +kernel
theorem dX9_permit_56 : decode cX9_permit 56 = .ok (.aload_n 0, 1) := by decide +kernel
theorem dX9_permit_57 : decode cX9_permit 57 = .ok (.getfield 31, 3) := by decide +kernel
theorem dX9_permit_60 : decode cX9_permit 60 = .ok (.iload_n 1, 1) := by decide +kernel
theorem dX9_permit_61 : decode cX9_permit 61 = .ok (.iaload, 1) := by decide +kernel
theorem dX9_permit_62 : decode cX9_permit 62 = .ok (.iconst 3, 1) := by decide +kernel
theorem dX9_permit_63 : decode cX9_permit 63 = .ok (.if_icmp .ne 7, 3) := by decide +kernel
theorem dX9_permit_66 : decode cX9_permit 66 = .ok (.iconst 2, 1) := by decide +kernel
theorem dX9_permit_67 : decode cX9_permit 67 = .ok (.goto 9, 3) := by decide +kernel
theorem dX9_permit_70 : decode cX9_permit 70 = .ok (.aload_n 0, 1) := by decide +kernel
theorem dX9_permit_71 : decode cX9_permit 71 = .ok (.getfield 31, 3) := by decide +kernel
theorem dX9_permit_74 : decode cX9_permit 74 = .ok (.iload_n 1, 1) := by decide +kernel
theorem dX9_permit_75 : decode cX9_permit 75 = .ok (.iaload, 1) := by decide +kernel
theorem dX9_permit_76 : decode cX9_permit 76 = .ok (.ireturn, 1) := by decide +kernel
theorem dX9_permit_77 : decode cX9_permit 77 = .ok (.aload_n 0, 1) := by decide +kernel
theorem dX9_permit_78 : decode cX9_permit 78 = .ok (.getfield 34, 3) := by decide +kernel
theorem dX9_permit_81 : decode cX9_permit 81 = .ok (.iload_n 1, 1) := by decide +kernel
theorem dX9_permit_82 : decode cX9_permit 82 = .ok (.iaload, 1) := by decide +kernel
theorem dX9_permit_83 : decode cX9_permit 83 = .ok (.ireturn, 1) := by decide +kernel
theorem dX9_permit_84 : decode cX9_permit 84 = .ok (.aload_n 0, 1) := by decide +kernel
theorem dX9_permit_85 : decode cX9_permit 85 = .ok (.getfield 37, 3) := by decide +kernel
theorem dX9_permit_88 : decode cX9_permit 88 = .ok (.iload_n 1, 1) := by decide +kernel
theorem dX9_permit_89 : decode cX9_permit 89 = .ok (.iaload, 1) := by decide +kernel
theorem dX9_permit_90 : decode cX9_permit 90 = .ok (.ireturn, 1) := by decide +kernel
theorem dX9_permit_91 : decode cX9_permit 91 = .ok (.aload_n 0, 1) := by decide +kernel
theorem dX9_permit_92 : decode cX9_permit 92 = .ok (.getfield 40, 3) := by decide +kernel
theorem dX9_permit_95 : decode cX9_permit 95 = .ok (.iload_n 1, 1) := by decide +kernel
theorem dX9_permit_96 : decode cX9_permit 96 = .ok (.iaload, 1) := by decide +kernel
theorem dX9_permit_97 : decode cX9_permit 97 = .ok (.ireturn, 1) := by decide +kernel
theorem dX9_permit_98 : decode cX9_permit 98 = .ok (.aload_n 0, 1) := by decide +kernel
theorem dX9_permit_99 : decode cX9_permit 99 = .ok (.getfield 43, 3) := by decide +kernel
theorem dX9_permit_102 : decode cX9_permit 102 = .ok (.iload_n 1, 1) := by decide +kernel
theorem dX9_permit_103 : decode cX9_permit 103 = .ok (.iaload, 1) := by decide +kernel
theorem dX9_permit_104 : decode cX9_permit 104 = .ok (.ireturn, 1) := by decide +kernel
theorem dX9_permit_105 : decode cX9_permit 105 = .ok (.aload_n 0, 1) := by decide +kernel
theorem dX9_permit_106 : decode cX9_permit 106 = .ok (.getfield 46, 3) := by decide +kernel
theorem dX9_permit_109 : decode cX9_permit 109 = .ok (.iload_n 1, 1) := by decide +kernel
theorem dX9_permit_110 : decode cX9_permit 110 = .ok (.iaload, 1) := by decide +kernel
theorem dX9_permit_111 : decode cX9_permit 111 = .ok (.ireturn, 1) := by decide +kernel
theorem dX9_permit_112 : decode cX9_permit 112 = .ok (.ldc 153, 2) := by decide +kernel
theorem dX9_permit_114 : decode cX9_permit 114 = .ok (.ireturn, 1) := by decide +kernel
theorem dX9_countOf_0 : decode cX9_countOf 0 = .ok (.iconst 0, 1) := by decide +kernel
theorem dX9_countOf_1 : decode cX9_countOf 1 = .ok (.istore_n 3, 1) := by decide +kernel
theorem dX9_countOf_2 : decode cX9_countOf 2 = .ok (.iconst 0, 1) := by decide +kernel
theorem dX9_countOf_3 : decode cX9_countOf 3 = .ok (.istore 4, 2) := by decide +kernel
theorem dX9_countOf_5 : decode cX9_countOf 5 = .ok (.iload 4, 2) := by decide +kernel
theorem dX9_countOf_7 : decode cX9_countOf 7 = .ok (.aload_n 0, 1) := by decide +kernel
theorem dX9_countOf_8 : decode cX9_countOf 8 = .ok (.getfield 120, 3) := by decide +kernel
theorem dX9_countOf_11 : decode cX9_countOf 11 = .ok (.if_icmp .ge 45, 3) := by decide +kernel
theorem dX9_countOf_14 : decode cX9_countOf 14 = .ok (.iload_n 3, 1) := by decide +kernel
theorem dX9_countOf_15 : decode cX9_countOf 15 = .ok (.aload_n 0, 1) := by decide +kernel
theorem dX9_countOf_16 : decode cX9_countOf 16 = .ok (.getfield 31, 3) := by decide +kernel
theorem dX9_countOf_19 : decode cX9_countOf 19 = .ok (.iload 4, 2) := by decide +kernel
theorem dX9_countOf_21 : decode cX9_countOf 21 = .ok (.iaload, 1) := by decide +kernel
theorem dX9_countOf_22 : decode cX9_countOf 22 = .ok (.iload_n 1, 1) := by decide +kernel
theorem dX9_countOf_23 : decode cX9_countOf 23 = .ok (.if_icmp .ne 24, 3) := by decide +kernel
theorem dX9_countOf_26 : decode cX9_countOf 26 = .ok (.iload_n 2, 1) := by decide +kernel
theorem dX9_countOf_27 : decode cX9_countOf 27 = .ok (.ldc 153, 2) := by decide +kernel
theorem dX9_countOf_29 : decode cX9_countOf 29 = .ok (.if_icmp .eq 14, 3) := by decide +kernel
theorem dX9_countOf_32 : decode cX9_countOf 32 = .ok (.aload_n 0, 1) := by decide +kernel
theorem dX9_countOf_33 : decode cX9_countOf 33 = .ok (.getfield 34, 3) := by decide +kernel
theorem dX9_countOf_36 : decode cX9_countOf 36 = .ok (.iload 4, 2) := by decide +kernel
theorem dX9_countOf_38 : decode cX9_countOf 38 = .ok (.iaload, 1) := by decide +kernel
theorem dX9_countOf_39 : decode cX9_countOf 39 = .ok (.iload_n 2, 1) := by decide +kernel
theorem dX9_countOf_40 : decode cX9_countOf 40 = .ok (.if_icmp .ne 7, 3) := by decide +kernel
theorem dX9_countOf_43 : decode cX9_countOf 43 = .ok (.iconst 1, 1) := by decide +kernel
theorem dX9_countOf_44 : decode cX9_countOf 44 = .ok (.goto 4, 3) := by decide +kernel
theorem dX9_countOf_47 : decode cX9_countOf 47 = .ok (.iconst 0, 1) := by decide +kernel
theorem dX9_countOf_48 : decode cX9_countOf 48 = .ok (.iadd, 1) := by decide +kernel
theorem dX9_countOf_49 : decode cX9_countOf 49 = .ok (.istore_n 3, 1) := by decide +kernel
theorem dX9_countOf_50 : decode cX9_countOf 50 = .ok (.iinc 4 1, 3) := by decide +kernel
theorem dX9_countOf_53 : decode cX9_countOf 53 = .ok (.goto (-48), 3) := by decide +kernel
theorem dX9_countOf_56 : decode cX9_countOf 56 = .ok (.iload_n 3, 1) := by decide +kernel
theorem dX9_countOf_57 : decode cX9_countOf 57 = .ok (.ireturn, 1) := by decide +kernel
set_option maxRecDepth 20000 in
theorem ggX9_told_X9_isWorks : GoodIn wsX9_told wsX9_isWorks := goodIn_r _ [9, 10, 11, 12, 8, 13, 25, 26, 27, 28, 29, 30, 31, 32, 33, 34, 35, 36, 37, 38, 39, 40, 41, 42, 43, 44, 45, 46, 47, 48, 49, 50, 51, 52, 53, 54, 55, 56, 57, 58] (by decide +kernel) (by decide +kernel)
set_option maxRecDepth 20000 in
theorem gX9_told_X9_isWorks : GoodIn wsX9_told (wsV RX9 109 RX9 yX9_isWorks wsX9_isWorks) := goodIn_app (goodIn_of _ (by decide +kernel)) ggX9_told_X9_isWorks
set_option maxRecDepth 20000 in
theorem ggX9_told_X9_holds : GoodIn wsX9_told wsX9_holds := goodIn_r _ [17, 18, 19, 20, 25, 26, 27, 28, 29, 30, 31, 32, 33, 34, 35, 36, 37, 38, 39, 40, 41, 42, 43, 44, 45, 46, 47, 48, 49, 50, 51, 52, 53, 54, 55, 56, 57, 58] (by decide +kernel) (by decide +kernel)
set_option maxRecDepth 20000 in
theorem gX9_told_X9_holds : GoodIn wsX9_told (wsV RX9 137 RX9 yX9_holds wsX9_holds) := goodIn_app (goodIn_of _ (by decide +kernel)) ggX9_told_X9_holds
set_option maxRecDepth 20000 in
theorem ggX9_told_X9_countOf : GoodIn wsX9_told wsX9_countOf := goodIn_r _ [24, 18, 19, 1, 20, 25, 26, 27, 28, 29, 30, 31, 32, 33, 34, 35, 36, 37, 38, 39, 40, 41, 42, 43, 44, 45, 46, 47, 48, 49, 50, 51, 52, 53, 54, 55, 56, 57, 58] (by decide +kernel) (by decide +kernel)
set_option maxRecDepth 20000 in
theorem gX9_told_X9_countOf : GoodIn wsX9_told (wsV RX9 154 RX9 yX9_countOf wsX9_countOf) := goodIn_app (goodIn_of _ (by decide +kernel)) ggX9_told_X9_countOf
theorem dX9_told_0 : decode cX9_told 0 = .ok (.aload_n 0, 1) := by decide +kernel
theorem dX9_told_1 : decode cX9_told 1 = .ok (.iload_n 1, 1) := by decide +kernel
theorem dX9_told_2 : decode cX9_told 2 = .ok (.invokevirtual 109, 3) := by decide +kernel
theorem dX9_told_5 : decode cX9_told 5 = .ok (.ifCond .ne 6, 3) := by decide +kernel
theorem dX9_told_8 : decode cX9_told 8 = .ok (.ldc 153, 2) := by decide +kernel
theorem dX9_told_10 : decode cX9_told 10 = .ok (.ireturn, 1) := by decide +kernel
theorem dX9_told_11 : decode cX9_told 11 = .ok (.iload_n 2, 1) := by decide +kernel
theorem dX9_told_12 : decode cX9_told 12 = .ok (.tableswitch 70 0 4 #[36, 43, 50, 56, 63], 36) := by decide +kernel
theorem dX9_told_48 : decode cX9_told 48 = .ok (.aload_n 0, 1) := by decide +kernel
theorem dX9_told_49 : decode cX9_told 49 = .ok (.getfield 9, 3) := by decide +kernel
theorem dX9_told_52 : decode cX9_told 52 = .ok (.iload_n 1, 1) := by decide +kernel
theorem dX9_told_53 : decode cX9_told 53 = .ok (.iaload, 1) := by decide +kernel
theorem dX9_told_54 : decode cX9_told 54 = .ok (.ireturn, 1) := by decide +kernel
theorem dX9_told_55 : decode cX9_told 55 = .ok (.aload_n 0, 1) := by decide +kernel
theorem dX9_told_56 : decode cX9_told 56 = .ok (.getfield 13, 3) := by decide +kernel
theorem dX9_told_59 : decode cX9_told 59 = .ok (.iload_n 1, 1) := by decide +kernel
theorem dX9_told_60 : decode cX9_told 60 = .ok (.iaload, 1) := by decide +kernel
theorem dX9_told_61 : decode cX9_told 61 = .ok (.ireturn, 1) := by decide +kernel
theorem dX9_told_62 : decode cX9_told 62 = .ok (.aload_n 0, 1) := by decide +kernel
theorem dX9_told_63 : decode cX9_told 63 = .ok (.iload_n 1, 1) := by decide +kernel
theorem dX9_told_64 : decode cX9_told 64 = .ok (.invokevirtual 137, 3) := by decide +kernel
theorem dX9_told_67 : decode cX9_told 67 = .ok (.ireturn, 1) := by decide +kernel
theorem dX9_told_68 : decode cX9_told 68 = .ok (.aload_n 0, 1) := by decide +kernel
theorem dX9_told_69 : decode cX9_told 69 = .ok (.iconst 1, 1) := by decide +kernel
theorem dX9_told_70 : decode cX9_told 70 = .ok (.iload_n 1, 1) := by decide +kernel
theorem dX9_told_71 : decode cX9_told 71 = .ok (.invokevirtual 154, 3) := by decide +kernel
theorem dX9_told_74 : decode cX9_told 74 = .ok (.ireturn, 1) := by decide +kernel
theorem dX9_told_75 : decode cX9_told 75 = .ok (.aload_n 0, 1) := by decide +kernel
theorem dX9_told_76 : decode cX9_told 76 = .ok (.getfield 16, 3) := by decide +kernel
theorem dX9_told_79 : decode cX9_told 79 = .ok (.iload_n 1, 1) := by decide +kernel
theorem dX9_told_80 : decode cX9_told 80 = .ok (.iaload, 1) := by decide +kernel
theorem dX9_told_81 : decode cX9_told 81 = .ok (.ireturn, 1) := by decide +kernel
theorem dX9_told_82 : decode cX9_told 82 = .ok (.ldc 153, 2) := by decide +kernel
theorem dX9_told_84 : decode cX9_told 84 = .ok (.ireturn, 1) := by decide +kernel
set_option maxRecDepth 20000 in
theorem ggX9_cut_X9_isWorks : GoodIn wsX9_cut wsX9_isWorks := goodIn_r _ [8, 9, 10, 11, 7, 12, 13, 14, 15, 16, 17, 18, 19, 20, 21, 22, 23, 24, 25, 26, 27, 28, 29, 30, 31, 32, 33, 34, 35, 36, 37, 38, 39, 40, 41, 42, 43, 44, 45, 46] (by decide +kernel) (by decide +kernel)
set_option maxRecDepth 20000 in
theorem gX9_cut_X9_isWorks : GoodIn wsX9_cut (wsV RX9 109 RX9 yX9_isWorks wsX9_isWorks) := goodIn_app (goodIn_of _ (by decide +kernel)) ggX9_cut_X9_isWorks
set_option maxRecDepth 20000 in
theorem ggX9_cut_X9_in : GoodIn wsX9_cut wsX9_in := goodIn_r _ [12] (by decide +kernel) (by decide +kernel)
set_option maxRecDepth 20000 in
theorem gX9_cut_X9_in : GoodIn wsX9_cut (va_wsS RX9 90 yX9_in wsX9_in) := goodIn_app (goodIn_of _ (by decide +kernel)) ggX9_cut_X9_in
theorem dX9_cut_0 : decode cX9_cut 0 = .ok (.aload_n 0, 1) := by decide +kernel
theorem dX9_cut_1 : decode cX9_cut 1 = .ok (.iload_n 1, 1) := by decide +kernel
theorem dX9_cut_2 : decode cX9_cut 2 = .ok (.invokevirtual 109, 3) := by decide +kernel
theorem dX9_cut_5 : decode cX9_cut 5 = .ok (.ifCond .eq 34, 3) := by decide +kernel
theorem dX9_cut_8 : decode cX9_cut 8 = .ok (.iload_n 2, 1) := by decide +kernel
theorem dX9_cut_9 : decode cX9_cut 9 = .ok (.iconst 1, 1) := by decide +kernel
theorem dX9_cut_10 : decode cX9_cut 10 = .ok (.bipush 99, 2) := by decide +kernel
theorem dX9_cut_12 : decode cX9_cut 12 = .ok (.invokestatic 90, 3) := by decide +kernel
theorem dX9_cut_15 : decode cX9_cut 15 = .ok (.ifCond .eq 24, 3) := by decide +kernel
theorem dX9_cut_18 : decode cX9_cut 18 = .ok (.iload_n 3, 1) := by decide +kernel
theorem dX9_cut_19 : decode cX9_cut 19 = .ok (.iconst 0, 1) := by decide +kernel
theorem dX9_cut_20 : decode cX9_cut 20 = .ok (.sipush 999, 3) := by decide +kernel
theorem dX9_cut_23 : decode cX9_cut 23 = .ok (.invokestatic 90, 3) := by decide +kernel
theorem dX9_cut_26 : decode cX9_cut 26 = .ok (.ifCond .eq 13, 3) := by decide +kernel
theorem dX9_cut_29 : decode cX9_cut 29 = .ok (.aload_n 0, 1) := by decide +kernel
theorem dX9_cut_30 : decode cX9_cut 30 = .ok (.getfield 66, 3) := by decide +kernel
theorem dX9_cut_33 : decode cX9_cut 33 = .ok (.iload_n 1, 1) := by decide +kernel
theorem dX9_cut_34 : decode cX9_cut 34 = .ok (.iaload, 1) := by decide +kernel
theorem dX9_cut_35 : decode cX9_cut 35 = .ok (.iconst 4, 1) := by decide +kernel
theorem dX9_cut_36 : decode cX9_cut 36 = .ok (.if_icmp .ne 5, 3) := by decide +kernel
theorem dX9_cut_39 : decode cX9_cut 39 = .ok (.iconst (-1), 1) := by decide +kernel
theorem dX9_cut_40 : decode cX9_cut 40 = .ok (.ireturn, 1) := by decide +kernel
theorem dX9_cut_41 : decode cX9_cut 41 = .ok (.aload_n 0, 1) := by decide +kernel
theorem dX9_cut_42 : decode cX9_cut 42 = .ok (.getfield 69, 3) := by decide +kernel
theorem dX9_cut_45 : decode cX9_cut 45 = .ok (.iconst 4, 1) := by decide +kernel
theorem dX9_cut_46 : decode cX9_cut 46 = .ok (.iload_n 1, 1) := by decide +kernel
theorem dX9_cut_47 : decode cX9_cut 47 = .ok (.imul, 1) := by decide +kernel
theorem dX9_cut_48 : decode cX9_cut 48 = .ok (.aload_n 0, 1) := by decide +kernel
theorem dX9_cut_49 : decode cX9_cut 49 = .ok (.getfield 66, 3) := by decide +kernel
theorem dX9_cut_52 : decode cX9_cut 52 = .ok (.iload_n 1, 1) := by decide +kernel
theorem dX9_cut_53 : decode cX9_cut 53 = .ok (.iaload, 1) := by decide +kernel
theorem dX9_cut_54 : decode cX9_cut 54 = .ok (.iadd, 1) := by decide +kernel
theorem dX9_cut_55 : decode cX9_cut 55 = .ok (.iload_n 2, 1) := by decide +kernel
theorem dX9_cut_56 : decode cX9_cut 56 = .ok (.iastore, 1) := by decide +kernel
theorem dX9_cut_57 : decode cX9_cut 57 = .ok (.aload_n 0, 1) := by decide +kernel
theorem dX9_cut_58 : decode cX9_cut 58 = .ok (.getfield 72, 3) := by decide +kernel
theorem dX9_cut_61 : decode cX9_cut 61 = .ok (.iconst 4, 1) := by decide +kernel
theorem dX9_cut_62 : decode cX9_cut 62 = .ok (.iload_n 1, 1) := by decide +kernel
theorem dX9_cut_63 : decode cX9_cut 63 = .ok (.imul, 1) := by decide +kernel
theorem dX9_cut_64 : decode cX9_cut 64 = .ok (.aload_n 0, 1) := by decide +kernel
theorem dX9_cut_65 : decode cX9_cut 65 = .ok (.getfield 66, 3) := by decide +kernel
theorem dX9_cut_68 : decode cX9_cut 68 = .ok (.iload_n 1, 1) := by decide +kernel
theorem dX9_cut_69 : decode cX9_cut 69 = .ok (.iaload, 1) := by decide +kernel
theorem dX9_cut_70 : decode cX9_cut 70 = .ok (.iadd, 1) := by decide +kernel
theorem dX9_cut_71 : decode cX9_cut 71 = .ok (.iload_n 3, 1) := by decide +kernel
theorem dX9_cut_72 : decode cX9_cut 72 = .ok (.iastore, 1) := by decide +kernel
theorem dX9_cut_73 : decode cX9_cut 73 = .ok (.aload_n 0, 1) := by decide +kernel
theorem dX9_cut_74 : decode cX9_cut 74 = .ok (.getfield 66, 3) := by decide +kernel
theorem dX9_cut_77 : decode cX9_cut 77 = .ok (.iload_n 1, 1) := by decide +kernel
theorem dX9_cut_78 : decode cX9_cut 78 = .ok (.dup2, 1) := by decide +kernel
theorem dX9_cut_79 : decode cX9_cut 79 = .ok (.iaload, 1) := by decide +kernel
theorem dX9_cut_80 : decode cX9_cut 80 = .ok (.iconst 1, 1) := by decide +kernel
theorem dX9_cut_81 : decode cX9_cut 81 = .ok (.iadd, 1) := by decide +kernel
theorem dX9_cut_82 : decode cX9_cut 82 = .ok (.iastore, 1) := by decide +kernel
theorem dX9_cut_83 : decode cX9_cut 83 = .ok (.aload_n 0, 1) := by decide +kernel
theorem dX9_cut_84 : decode cX9_cut 84 = .ok (.getfield 66, 3) := by decide +kernel
theorem dX9_cut_87 : decode cX9_cut 87 = .ok (.iload_n 1, 1) := by decide +kernel
theorem dX9_cut_88 : decode cX9_cut 88 = .ok (.iaload, 1) := by decide +kernel
theorem dX9_cut_89 : decode cX9_cut 89 = .ok (.ireturn, 1) := by decide +kernel
theorem dX9_cutsAll_0 : decode cX9_cutsAll 0 = .ok (.iload_n 1, 1) := by decide +kernel
theorem dX9_cutsAll_1 : decode cX9_cutsAll 1 = .ok (.istore_n 2, 1) := by decide +kernel
theorem dX9_cutsAll_2 : decode cX9_cutsAll 2 = .ok (.aload_n 0, 1) := by decide +kernel
theorem dX9_cutsAll_3 : decode cX9_cutsAll 3 = .ok (.iconst 0, 1) := by decide +kernel
theorem dX9_cutsAll_4 : decode cX9_cutsAll 4 = .ok (.putfield 157, 3) := by decide +kernel
theorem dX9_cutsAll_7 : decode cX9_cutsAll 7 = .ok (.aload_n 0, 1) := by decide +kernel
theorem dX9_cutsAll_8 : decode cX9_cutsAll 8 = .ok (.iconst 0, 1) := by decide +kernel
theorem dX9_cutsAll_9 : decode cX9_cutsAll 9 = .ok (.putfield 160, 3) := by decide +kernel
theorem dX9_cutsAll_12 : decode cX9_cutsAll 12 = .ok (.iconst 0, 1) := by decide +kernel
theorem dX9_cutsAll_13 : decode cX9_cutsAll 13 = .ok (.istore_n 3, 1) := by decide +kernel
theorem dX9_cutsAll_14 : decode cX9_cutsAll 14 = .ok (.iload_n 3, 1) := by decide +kernel
theorem dX9_cutsAll_15 : decode cX9_cutsAll 15 = .ok (.bipush 10, 2) := by decide +kernel
theorem dX9_cutsAll_17 : decode cX9_cutsAll 17 = .ok (.if_icmp .ge 16, 3) := by decide +kernel
theorem dX9_cutsAll_20 : decode cX9_cutsAll 20 = .ok (.aload_n 0, 1) := by decide +kernel
theorem dX9_cutsAll_21 : decode cX9_cutsAll 21 = .ok (.getfield 84, 3) := by decide +kernel
theorem dX9_cutsAll_24 : decode cX9_cutsAll 24 = .ok (.iload_n 3, 1) := by decide +kernel
theorem dX9_cutsAll_25 : decode cX9_cutsAll 25 = .ok (.iconst 0, 1) := by decide +kernel
theorem dX9_cutsAll_26 : decode cX9_cutsAll 26 = .ok (.iastore, 1) := by decide +kernel
theorem dX9_cutsAll_27 : decode cX9_cutsAll 27 = .ok (.iinc 3 1, 3) := by decide +kernel
theorem dX9_cutsAll_30 : decode cX9_cutsAll 30 = .ok (.goto (-16), 3) := by decide +kernel
theorem dX9_cutsAll_33 : decode cX9_cutsAll 33 = .ok (.iconst 0, 1) := by decide +kernel
theorem dX9_cutsAll_34 : decode cX9_cutsAll 34 = .ok (.istore_n 3, 1) := by decide +kernel
theorem dX9_cutsAll_35 : decode cX9_cutsAll 35 = .ok (.iload_n 3, 1) := by decide +kernel
theorem dX9_cutsAll_36 : decode cX9_cutsAll 36 = .ok (.sipush 999, 3) := by decide +kernel
theorem dX9_cutsAll_39 : decode cX9_cutsAll 39 = .ok (.if_icmp .gt 124, 3) := by decide +kernel
theorem dX9_cutsAll_42 : decode cX9_cutsAll 42 = .ok (.iload_n 2, 1) := by decide +kernel
theorem dX9_cutsAll_43 : decode cX9_cutsAll 43 = .ok (.ifCond .le 120, 3) := by decide +kernel
theorem dX9_cutsAll_46 : decode cX9_cutsAll 46 = .ok (.iconst 0, 1) := by decide +kernel
theorem dX9_cutsAll_47 : decode cX9_cutsAll 47 = .ok (.istore 4, 2) := by decide +kernel
theorem dX9_cutsAll_49 : decode cX9_cutsAll 49 = .ok (.iload 4, 2) := by decide +kernel
theorem dX9_cutsAll_51 : decode cX9_cutsAll 51 = .ok (.bipush 40, 2) := by decide +kernel
theorem dX9_cutsAll_53 : decode cX9_cutsAll 53 = .ok (.if_icmp .ge 104, 3) := by decide +kernel
theorem dX9_cutsAll_56 : decode cX9_cutsAll 56 = .ok (.iload 4, 2) := by decide +kernel
theorem dX9_cutsAll_58 : decode cX9_cutsAll 58 = .ok (.iconst 4, 1) := by decide +kernel
theorem dX9_cutsAll_59 : decode cX9_cutsAll 59 = .ok (.irem, 1) := by decide +kernel
theorem dX9_cutsAll_60 : decode cX9_cutsAll 60 = .ok (.aload_n 0, 1) := by decide +kernel
theorem dX9_cutsAll_61 : decode cX9_cutsAll 61 = .ok (.getfield 66, 3) := by decide +kernel
theorem dX9_cutsAll_64 : decode cX9_cutsAll 64 = .ok (.iload 4, 2) := by decide +kernel
theorem dX9_cutsAll_66 : decode cX9_cutsAll 66 = .ok (.iconst 4, 1) := by decide +kernel
theorem dX9_cutsAll_67 : decode cX9_cutsAll 67 = .ok (.idiv, 1) := by decide +kernel
theorem dX9_cutsAll_68 : decode cX9_cutsAll 68 = .ok (.iaload, 1) := by decide +kernel
theorem dX9_cutsAll_69 : decode cX9_cutsAll 69 = .ok (.if_icmp .ge 82, 3) := by decide +kernel
theorem dX9_cutsAll_72 : decode cX9_cutsAll 72 = .ok (.aload_n 0, 1) := by decide +kernel
theorem dX9_cutsAll_73 : decode cX9_cutsAll 73 = .ok (.getfield 72, 3) := by decide +kernel
theorem dX9_cutsAll_76 : decode cX9_cutsAll 76 = .ok (.iload 4, 2) := by decide +kernel
theorem dX9_cutsAll_78 : decode cX9_cutsAll 78 = .ok (.iaload, 1) := by decide +kernel
theorem dX9_cutsAll_79 : decode cX9_cutsAll 79 = .ok (.iload_n 3, 1) := by decide +kernel
theorem dX9_cutsAll_80 : decode cX9_cutsAll 80 = .ok (.if_icmp .ne 71, 3) := by decide +kernel
theorem dX9_cutsAll_83 : decode cX9_cutsAll 83 = .ok (.iload_n 2, 1) := by decide +kernel
theorem dX9_cutsAll_84 : decode cX9_cutsAll 84 = .ok (.ifCond .ne 6, 3) := by decide +kernel
theorem dX9_cutsAll_87 : decode cX9_cutsAll 87 = .ok (.goto 64, 3) := by decide +kernel
theorem dX9_cutsAll_90 : decode cX9_cutsAll 90 = .ok (.aload_n 0, 1) := by decide +kernel
theorem dX9_cutsAll_91 : decode cX9_cutsAll 91 = .ok (.getfield 69, 3) := by decide +kernel
theorem dX9_cutsAll_94 : decode cX9_cutsAll 94 = .ok (.iload 4, 2) := by decide +kernel
theorem dX9_cutsAll_96 : decode cX9_cutsAll 96 = .ok (.iaload, 1) := by decide +kernel
theorem dX9_cutsAll_97 : decode cX9_cutsAll 97 = .ok (.iload_n 2, 1) := by decide +kernel
theorem dX9_cutsAll_98 : decode cX9_cutsAll 98 = .ok (.if_icmp .ge 13, 3) := by decide +kernel
theorem dX9_cutsAll_101 : decode cX9_cutsAll 101 = .ok (.aload_n 0, 1) := by decide +kernel
theorem dX9_cutsAll_102 : decode cX9_cutsAll 102 = .ok (.getfield 69, 3) := by decide +kernel
theorem dX9_cutsAll_105 : decode cX9_cutsAll 105 = .ok (.iload 4, 2) := by decide +kernel
theorem dX9_cutsAll_107 : decode cX9_cutsAll 107 = .ok (.iaload, 1) := by decide +kernel
theorem dX9_cutsAll_108 : decode cX9_cutsAll 108 = .ok (.goto 4, 3) := by decide +kernel
theorem dX9_cutsAll_111 : decode cX9_cutsAll 111 = .ok (.iload_n 2, 1) := by decide +kernel
theorem dX9_cutsAll_112 : decode cX9_cutsAll 112 = .ok (.istore 5, 2) := by decide +kernel
theorem dX9_cutsAll_114 : decode cX9_cutsAll 114 = .ok (.aload_n 0, 1) := by decide +kernel
theorem dX9_cutsAll_115 : decode cX9_cutsAll 115 = .ok (.getfield 84, 3) := by decide +kernel
theorem dX9_cutsAll_118 : decode cX9_cutsAll 118 = .ok (.iload 4, 2) := by decide +kernel
theorem dX9_cutsAll_120 : decode cX9_cutsAll 120 = .ok (.iconst 4, 1) := by decide +kernel
theorem dX9_cutsAll_121 : decode cX9_cutsAll 121 = .ok (.idiv, 1) := by decide +kernel
theorem dX9_cutsAll_122 : decode cX9_cutsAll 122 = .ok (.dup2, 1) := by decide +kernel
theorem dX9_cutsAll_123 : decode cX9_cutsAll 123 = .ok (.iaload, 1) := by decide +kernel
theorem dX9_cutsAll_124 : decode cX9_cutsAll 124 = .ok (.iload 5, 2) := by decide +kernel
theorem dX9_cutsAll_126 : decode cX9_cutsAll 126 = .ok (.iadd, 1) := by decide +kernel
theorem dX9_cutsAll_127 : decode cX9_cutsAll 127 = .ok (.iastore, 1) := by decide +kernel
theorem dX9_cutsAll_128 : decode cX9_cutsAll 128 = .ok (.aload_n 0, 1) := by decide +kernel
theorem dX9_cutsAll_129 : decode cX9_cutsAll 129 = .ok (.dup, 1) := by decide +kernel
theorem dX9_cutsAll_130 : decode cX9_cutsAll 130 = .ok (.getfield 157, 3) := by decide +kernel
theorem dX9_cutsAll_133 : decode cX9_cutsAll 133 = .ok (.iload 5, 2) := by decide +kernel
theorem dX9_cutsAll_135 : decode cX9_cutsAll 135 = .ok (.iload_n 3, 1) := by decide +kernel
theorem dX9_cutsAll_136 : decode cX9_cutsAll 136 = .ok (.imul, 1) := by decide +kernel
theorem dX9_cutsAll_137 : decode cX9_cutsAll 137 = .ok (.iadd, 1) := by decide +kernel
theorem dX9_cutsAll_138 : decode cX9_cutsAll 138 = .ok (.putfield 157, 3) := by decide +kernel
theorem dX9_cutsAll_141 : decode cX9_cutsAll 141 = .ok (.aload_n 0, 1) := by decide +kernel
theorem dX9_cutsAll_142 : decode cX9_cutsAll 142 = .ok (.iload_n 3, 1) := by decide +kernel
theorem dX9_cutsAll_143 : decode cX9_cutsAll 143 = .ok (.putfield 160, 3) := by decide +kernel
theorem dX9_cutsAll_146 : decode cX9_cutsAll 146 = .ok (.iload_n 2, 1) := by decide +kernel
theorem dX9_cutsAll_147 : decode cX9_cutsAll 147 = .ok (.iload 5, 2) := by decide +kernel
theorem dX9_cutsAll_149 : decode cX9_cutsAll 149 = .ok (.isub, 1) := by decide +kernel
theorem dX9_cutsAll_150 : decode cX9_cutsAll 150 = .ok (.istore_n 2, 1) := by decide +kernel
theorem dX9_cutsAll_151 : decode cX9_cutsAll 151 = .ok (.iinc 4 1, 3) := by decide +kernel
theorem dX9_cutsAll_154 : decode cX9_cutsAll 154 = .ok (.goto (-105), 3) := by decide +kernel
theorem dX9_cutsAll_157 : decode cX9_cutsAll 157 = .ok (.iinc 3 1, 3) := by decide +kernel
theorem dX9_cutsAll_160 : decode cX9_cutsAll 160 = .ok (.goto (-125), 3) := by decide +kernel
theorem dX9_cutsAll_163 : decode cX9_cutsAll 163 = .ok (.iload_n 1, 1) := by decide +kernel
theorem dX9_cutsAll_164 : decode cX9_cutsAll 164 = .ok (.ifCond .lt 11, 3) := by decide +kernel
theorem dX9_cutsAll_167 : decode cX9_cutsAll 167 = .ok (.iload_n 2, 1) := by decide +kernel
theorem dX9_cutsAll_168 : decode cX9_cutsAll 168 = .ok (.ifCond .ne 7, 3) := by decide +kernel
theorem dX9_cutsAll_171 : decode cX9_cutsAll 171 = .ok (.iconst 1, 1) := by decide +kernel
theorem dX9_cutsAll_172 : decode cX9_cutsAll 172 = .ok (.goto 4, 3) := by decide +kernel
theorem dX9_cutsAll_175 : decode cX9_cutsAll 175 = .ok (.iconst 0, 1) := by decide +kernel
theorem dX9_cutsAll_176 : decode cX9_cutsAll 176 = .ok (.ireturn, 1) := by decide +kernel
set_option maxRecDepth 20000 in
theorem ggX9_least_X9_cutsAll : GoodIn wsX9_least wsX9_cutsAll := goodIn_r _ [6, 1, 7, 8, 9, 10, 11, 12, 13, 14, 15, 16, 17, 18, 19, 20, 21, 22, 23, 24, 25, 26, 27, 28, 29, 30, 31, 32, 33, 34, 35, 36, 37, 38, 39, 40, 41, 42, 43, 44, 45] (by decide +kernel) (by decide +kernel)
set_option maxRecDepth 20000 in
theorem gX9_least_X9_cutsAll : GoodIn wsX9_least (wsV RX9 163 RX9 yX9_cutsAll wsX9_cutsAll) := goodIn_app (goodIn_of _ (by decide +kernel)) ggX9_least_X9_cutsAll
theorem dX9_least_0 : decode cX9_least 0 = .ok (.iload_n 1, 1) := by decide +kernel
theorem dX9_least_1 : decode cX9_least 1 = .ok (.ifCond .lt 18, 3) := by decide +kernel
theorem dX9_least_4 : decode cX9_least 4 = .ok (.aload_n 0, 1) := by decide +kernel
theorem dX9_least_5 : decode cX9_least 5 = .ok (.iload_n 1, 1) := by decide +kernel
theorem dX9_least_6 : decode cX9_least 6 = .ok (.invokevirtual 163, 3) := by decide +kernel
theorem dX9_least_9 : decode cX9_least 9 = .ok (.ifCond .eq 10, 3) := by decide +kernel
theorem dX9_least_12 : decode cX9_least 12 = .ok (.aload_n 0, 1) := by decide +kernel
theorem dX9_least_13 : decode cX9_least 13 = .ok (.getfield 157, 3) := by decide +kernel
theorem dX9_least_16 : decode cX9_least 16 = .ok (.goto 4, 3) := by decide +kernel
theorem dX9_least_19 : decode cX9_least 19 = .ok (.iconst (-1), 1) := by decide +kernel
theorem dX9_least_20 : decode cX9_least 20 = .ok (.ireturn, 1) := by decide +kernel
set_option maxRecDepth 20000 in
theorem ggX9_margin_X9_cutsAll : GoodIn wsX9_margin wsX9_cutsAll := goodIn_r _ [6, 7, 1, 8, 9, 10, 11, 12, 13, 14, 15, 16, 17, 18, 19, 20, 21, 22, 23, 24, 25, 26, 27, 28, 29, 30, 31, 32, 33, 34, 35, 36, 37, 38, 39, 40, 41, 42, 43, 44, 45] (by decide +kernel) (by decide +kernel)
set_option maxRecDepth 20000 in
theorem gX9_margin_X9_cutsAll : GoodIn wsX9_margin (wsV RX9 163 RX9 yX9_cutsAll wsX9_cutsAll) := goodIn_app (goodIn_of _ (by decide +kernel)) ggX9_margin_X9_cutsAll
theorem dX9_margin_0 : decode cX9_margin 0 = .ok (.iload_n 1, 1) := by decide +kernel
theorem dX9_margin_1 : decode cX9_margin 1 = .ok (.ifCond .lt 18, 3) := by decide +kernel
theorem dX9_margin_4 : decode cX9_margin 4 = .ok (.aload_n 0, 1) := by decide +kernel
theorem dX9_margin_5 : decode cX9_margin 5 = .ok (.iload_n 1, 1) := by decide +kernel
theorem dX9_margin_6 : decode cX9_margin 6 = .ok (.invokevirtual 163, 3) := by decide +kernel
theorem dX9_margin_9 : decode cX9_margin 9 = .ok (.ifCond .eq 10, 3) := by decide +kernel
theorem dX9_margin_12 : decode cX9_margin 12 = .ok (.aload_n 0, 1) := by decide +kernel
theorem dX9_margin_13 : decode cX9_margin 13 = .ok (.getfield 160, 3) := by decide +kernel
theorem dX9_margin_16 : decode cX9_margin 16 = .ok (.goto 4, 3) := by decide +kernel
theorem dX9_margin_19 : decode cX9_margin 19 = .ok (.iconst (-1), 1) := by decide +kernel
theorem dX9_margin_20 : decode cX9_margin 20 = .ok (.ireturn, 1) := by decide +kernel
set_option maxRecDepth 20000 in
theorem ggX9_cuts_X9_isWorks : GoodIn wsX9_cuts wsX9_isWorks := goodIn_r _ [6, 7, 8, 9, 5, 10, 20, 21, 22, 23, 24, 25, 26, 27, 28, 29, 30, 31, 32, 33, 34, 35, 36, 37, 38, 39, 40, 41, 42, 43, 44, 45, 46, 47, 48, 49, 50, 51, 52, 53] (by decide +kernel) (by decide +kernel)
set_option maxRecDepth 20000 in
theorem gX9_cuts_X9_isWorks : GoodIn wsX9_cuts (wsV RX9 109 RX9 yX9_isWorks wsX9_isWorks) := goodIn_app (goodIn_of _ (by decide +kernel)) ggX9_cuts_X9_isWorks
set_option maxRecDepth 20000 in
theorem ggX9_cuts_X9_cutsAll : GoodIn wsX9_cuts wsX9_cutsAll := goodIn_r _ [14, 15, 16, 1, 17, 18, 19, 20, 21, 22, 23, 24, 25, 26, 27, 28, 29, 30, 31, 32, 33, 34, 35, 36, 37, 38, 39, 40, 41, 42, 43, 44, 45, 46, 47, 48, 49, 50, 51, 52, 53] (by decide +kernel) (by decide +kernel)
set_option maxRecDepth 20000 in
theorem gX9_cuts_X9_cutsAll : GoodIn wsX9_cuts (wsV RX9 163 RX9 yX9_cutsAll wsX9_cutsAll) := goodIn_app (goodIn_of _ (by decide +kernel)) ggX9_cuts_X9_cutsAll
theorem dX9_cuts_0 : decode cX9_cuts 0 = .ok (.iload_n 1, 1) := by decide +kernel
theorem dX9_cuts_1 : decode cX9_cuts 1 = .ok (.ifCond .lt 28, 3) := by decide +kernel
theorem dX9_cuts_4 : decode cX9_cuts 4 = .ok (.aload_n 0, 1) := by decide +kernel
theorem dX9_cuts_5 : decode cX9_cuts 5 = .ok (.iload_n 2, 1) := by decide +kernel
theorem dX9_cuts_6 : decode cX9_cuts 6 = .ok (.invokevirtual 109, 3) := by decide +kernel
theorem dX9_cuts_9 : decode cX9_cuts 9 = .ok (.ifCond .eq 20, 3) := by decide +kernel
theorem dX9_cuts_12 : decode cX9_cuts 12 = .ok (.aload_n 0, 1) := by decide +kernel
theorem dX9_cuts_13 : decode cX9_cuts 13 = .ok (.iload_n 1, 1) := by decide +kernel
theorem dX9_cuts_14 : decode cX9_cuts 14 = .ok (.invokevirtual 163, 3) := by decide +kernel
theorem dX9_cuts_17 : decode cX9_cuts 17 = .ok (.ifCond .eq 12, 3) := by decide +kernel
theorem dX9_cuts_20 : decode cX9_cuts 20 = .ok (.aload_n 0, 1) := by decide +kernel
theorem dX9_cuts_21 : decode cX9_cuts 21 = .ok (.getfield 84, 3) := by decide +kernel
theorem dX9_cuts_24 : decode cX9_cuts 24 = .ok (.iload_n 2, 1) := by decide +kernel
theorem dX9_cuts_25 : decode cX9_cuts 25 = .ok (.iaload, 1) := by decide +kernel
theorem dX9_cuts_26 : decode cX9_cuts 26 = .ok (.goto 4, 3) := by decide +kernel
theorem dX9_cuts_29 : decode cX9_cuts 29 = .ok (.iconst (-1), 1) := by decide +kernel
theorem dX9_cuts_30 : decode cX9_cuts 30 = .ok (.ireturn, 1) := by decide +kernel
set_option maxRecDepth 20000 in
theorem ggX9_count_X9_countOf : GoodIn wsX9_count wsX9_countOf := goodIn_r _ [13, 3, 14, 4, 15, 20, 21, 22, 23, 24, 25, 26, 27, 28, 29, 30, 31, 32, 33, 34, 35, 36, 37, 38, 39, 40, 41, 42, 43, 44, 45, 46, 47, 48, 49, 50, 51, 52, 53] (by decide +kernel) (by decide +kernel)
set_option maxRecDepth 20000 in
theorem gX9_count_X9_countOf : GoodIn wsX9_count (wsV RX9 154 RX9 yX9_countOf wsX9_countOf) := goodIn_app (goodIn_of _ (by decide +kernel)) ggX9_count_X9_countOf
set_option maxRecDepth 20000 in
theorem ggX9_count_X9_holds : GoodIn wsX9_count wsX9_holds := goodIn_r _ [19, 3, 14, 15, 20, 21, 22, 23, 24, 25, 26, 27, 28, 29, 30, 31, 32, 33, 34, 35, 36, 37, 38, 39, 40, 41, 42, 43, 44, 45, 46, 47, 48, 49, 50, 51, 52, 53] (by decide +kernel) (by decide +kernel)
set_option maxRecDepth 20000 in
theorem gX9_count_X9_holds : GoodIn wsX9_count (wsV RX9 137 RX9 yX9_holds wsX9_holds) := goodIn_app (goodIn_of _ (by decide +kernel)) ggX9_count_X9_holds
theorem dX9_count_0 : decode cX9_count 0 = .ok (.iconst 0, 1) := by decide +kernel
theorem dX9_count_1 : decode cX9_count 1 = .ok (.istore_n 2, 1) := by decide +kernel
theorem dX9_count_2 : decode cX9_count 2 = .ok (.iload_n 1, 1) := by decide +kernel
theorem dX9_count_3 : decode cX9_count 3 = .ok (.tableswitch 158 0 10 #[57, 62, 67, 72, 86, 92, 100, 116, 121, 126, 153], 57) := by decide +kernel
theorem dX9_count_60 : decode cX9_count 60 = .ok (.aload_n 0, 1) := by decide +kernel
theorem dX9_count_61 : decode cX9_count 61 = .ok (.getfield 113, 3) := by decide +kernel
theorem dX9_count_64 : decode cX9_count 64 = .ok (.ireturn, 1) := by decide +kernel
theorem dX9_count_65 : decode cX9_count 65 = .ok (.aload_n 0, 1) := by decide +kernel
theorem dX9_count_66 : decode cX9_count 66 = .ok (.getfield 87, 3) := by decide +kernel
theorem dX9_count_69 : decode cX9_count 69 = .ok (.ireturn, 1) := by decide +kernel
theorem dX9_count_70 : decode cX9_count 70 = .ok (.aload_n 0, 1) := by decide +kernel
theorem dX9_count_71 : decode cX9_count 71 = .ok (.getfield 120, 3) := by decide +kernel
theorem dX9_count_74 : decode cX9_count 74 = .ok (.ireturn, 1) := by decide +kernel
theorem dX9_count_75 : decode cX9_count 75 = .ok (.aload_n 0, 1) := by decide +kernel
theorem dX9_count_76 : decode cX9_count 76 = .ok (.iconst 0, 1) := by decide +kernel
theorem dX9_count_77 : decode cX9_count 77 = .ok (.ldc 153, 2) := by decide +kernel
theorem dX9_count_79 : decode cX9_count 79 = .ok (.invokevirtual 154, 3) := by decide +kernel
theorem dX9_count_82 : decode cX9_count 82 = .ok (.aload_n 0, 1) := by decide +kernel
theorem dX9_count_83 : decode cX9_count 83 = .ok (.iconst (-1), 1) := by decide +kernel
theorem dX9_count_84 : decode cX9_count 84 = .ok (.invokevirtual 137, 3) := by decide +kernel
theorem dX9_count_87 : decode cX9_count 87 = .ok (.isub, 1) := by decide +kernel
theorem dX9_count_88 : decode cX9_count 88 = .ok (.ireturn, 1) := by decide +kernel
theorem dX9_count_89 : decode cX9_count 89 = .ok (.aload_n 0, 1) := by decide +kernel
theorem dX9_count_90 : decode cX9_count 90 = .ok (.iconst (-1), 1) := by decide +kernel
theorem dX9_count_91 : decode cX9_count 91 = .ok (.invokevirtual 137, 3) := by decide +kernel
theorem dX9_count_94 : decode cX9_count 94 = .ok (.ireturn, 1) := by decide +kernel
theorem dX9_count_95 : decode cX9_count 95 = .ok (.aload_n 0, 1) := by decide +kernel
theorem dX9_count_96 : decode cX9_count 96 = .ok (.iconst 1, 1) := by decide +kernel
theorem dX9_count_97 : decode cX9_count 97 = .ok (.ldc 153, 2) := by decide +kernel
theorem dX9_count_99 : decode cX9_count 99 = .ok (.invokevirtual 154, 3) := by decide +kernel
theorem dX9_count_102 : decode cX9_count 102 = .ok (.ireturn, 1) := by decide +kernel
theorem dX9_count_103 : decode cX9_count 103 = .ok (.aload_n 0, 1) := by decide +kernel
theorem dX9_count_104 : decode cX9_count 104 = .ok (.iconst 2, 1) := by decide +kernel
theorem dX9_count_105 : decode cX9_count 105 = .ok (.ldc 153, 2) := by decide +kernel
theorem dX9_count_107 : decode cX9_count 107 = .ok (.invokevirtual 154, 3) := by decide +kernel
theorem dX9_count_110 : decode cX9_count 110 = .ok (.aload_n 0, 1) := by decide +kernel
theorem dX9_count_111 : decode cX9_count 111 = .ok (.iconst 3, 1) := by decide +kernel
theorem dX9_count_112 : decode cX9_count 112 = .ok (.ldc 153, 2) := by decide +kernel
theorem dX9_count_114 : decode cX9_count 114 = .ok (.invokevirtual 154, 3) := by decide +kernel
theorem dX9_count_117 : decode cX9_count 117 = .ok (.iadd, 1) := by decide +kernel
theorem dX9_count_118 : decode cX9_count 118 = .ok (.ireturn, 1) := by decide +kernel
theorem dX9_count_119 : decode cX9_count 119 = .ok (.aload_n 0, 1) := by decide +kernel
theorem dX9_count_120 : decode cX9_count 120 = .ok (.getfield 134, 3) := by decide +kernel
theorem dX9_count_123 : decode cX9_count 123 = .ok (.ireturn, 1) := by decide +kernel
theorem dX9_count_124 : decode cX9_count 124 = .ok (.aload_n 0, 1) := by decide +kernel
theorem dX9_count_125 : decode cX9_count 125 = .ok (.getfield 144, 3) := by decide +kernel
theorem dX9_count_128 : decode cX9_count 128 = .ok (.ireturn, 1) := by decide +kernel
theorem dX9_count_129 : decode cX9_count 129 = .ok (.iconst 0, 1) := by decide +kernel
theorem dX9_count_130 : decode cX9_count 130 = .ok (.istore_n 3, 1) := by decide +kernel
theorem dX9_count_131 : decode cX9_count 131 = .ok (.iload_n 3, 1) := by decide +kernel
theorem dX9_count_132 : decode cX9_count 132 = .ok (.aload_n 0, 1) := by decide +kernel
theorem dX9_count_133 : decode cX9_count 133 = .ok (.getfield 87, 3) := by decide +kernel
theorem dX9_count_136 : decode cX9_count 136 = .ok (.if_icmp .ge 18, 3) := by decide +kernel
theorem dX9_count_139 : decode cX9_count 139 = .ok (.iload_n 2, 1) := by decide +kernel
theorem dX9_count_140 : decode cX9_count 140 = .ok (.aload_n 0, 1) := by decide +kernel
theorem dX9_count_141 : decode cX9_count 141 = .ok (.getfield 16, 3) := by decide +kernel
theorem dX9_count_144 : decode cX9_count 144 = .ok (.iload_n 3, 1) := by decide +kernel
theorem dX9_count_145 : decode cX9_count 145 = .ok (.iaload, 1) := by decide +kernel
theorem dX9_count_146 : decode cX9_count 146 = .ok (.iadd, 1) := by decide +kernel
theorem dX9_count_147 : decode cX9_count 147 = .ok (.istore_n 2, 1) := by decide +kernel
theorem dX9_count_148 : decode cX9_count 148 = .ok (.iinc 3 1, 3) := by decide +kernel
theorem dX9_count_151 : decode cX9_count 151 = .ok (.goto (-20), 3) := by decide +kernel
theorem dX9_count_154 : decode cX9_count 154 = .ok (.iload_n 2, 1) := by decide +kernel
theorem dX9_count_155 : decode cX9_count 155 = .ok (.ireturn, 1) := by decide +kernel
theorem dX9_count_156 : decode cX9_count 156 = .ok (.aload_n 0, 1) := by decide +kernel
theorem dX9_count_157 : decode cX9_count 157 = .ok (.getfield 147, 3) := by decide +kernel
theorem dX9_count_160 : decode cX9_count 160 = .ok (.ireturn, 1) := by decide +kernel
theorem dX9_count_161 : decode cX9_count 161 = .ok (.iconst (-1), 1) := by decide +kernel
theorem dX9_count_162 : decode cX9_count 162 = .ok (.ireturn, 1) := by decide +kernel
theorem dJ9_max_7cf53_0 : decode cJ9_max_7cf53 0 = .ok (.iload_n 0, 1) := by decide +kernel
theorem dJ9_max_7cf53_1 : decode cJ9_max_7cf53 1 = .ok (.iload_n 1, 1) := by decide +kernel
theorem dJ9_max_7cf53_2 : decode cJ9_max_7cf53 2 = .ok (.if_icmp .lt 7, 3) := by decide +kernel
theorem dJ9_max_7cf53_5 : decode cJ9_max_7cf53 5 = .ok (.iload_n 0, 1) := by decide +kernel
theorem dJ9_max_7cf53_6 : decode cJ9_max_7cf53 6 = .ok (.goto 4, 3) := by decide +kernel
theorem dJ9_max_7cf53_9 : decode cJ9_max_7cf53 9 = .ok (.iload_n 1, 1) := by decide +kernel
theorem dJ9_max_7cf53_10 : decode cJ9_max_7cf53 10 = .ok (.ireturn, 1) := by decide +kernel
theorem dJ9_min_7cf53_0 : decode cJ9_min_7cf53 0 = .ok (.iload_n 0, 1) := by decide +kernel
theorem dJ9_min_7cf53_1 : decode cJ9_min_7cf53 1 = .ok (.iload_n 1, 1) := by decide +kernel
theorem dJ9_min_7cf53_2 : decode cJ9_min_7cf53 2 = .ok (.if_icmp .gt 7, 3) := by decide +kernel
theorem dJ9_min_7cf53_5 : decode cJ9_min_7cf53 5 = .ok (.iload_n 0, 1) := by decide +kernel
theorem dJ9_min_7cf53_6 : decode cJ9_min_7cf53 6 = .ok (.goto 4, 3) := by decide +kernel
theorem dJ9_min_7cf53_9 : decode cJ9_min_7cf53 9 = .ok (.iload_n 1, 1) := by decide +kernel
theorem dJ9_min_7cf53_10 : decode cJ9_min_7cf53 10 = .ok (.ireturn, 1) := by decide +kernel
theorem dJ7_fill_53178_0 : decode cJ7_fill_53178 0 = .ok (.iconst 0, 1) := by decide +kernel
theorem dJ7_fill_53178_1 : decode cJ7_fill_53178 1 = .ok (.istore_n 2, 1) := by decide +kernel
theorem dJ7_fill_53178_2 : decode cJ7_fill_53178 2 = .ok (.aload_n 0, 1) := by decide +kernel
theorem dJ7_fill_53178_3 : decode cJ7_fill_53178 3 = .ok (.arraylength, 1) := by decide +kernel
theorem dJ7_fill_53178_4 : decode cJ7_fill_53178 4 = .ok (.istore_n 3, 1) := by decide +kernel
theorem dJ7_fill_53178_5 : decode cJ7_fill_53178 5 = .ok (.iload_n 2, 1) := by decide +kernel
theorem dJ7_fill_53178_6 : decode cJ7_fill_53178 6 = .ok (.iload_n 3, 1) := by decide +kernel
theorem dJ7_fill_53178_7 : decode cJ7_fill_53178 7 = .ok (.if_icmp .ge 13, 3) := by decide +kernel
theorem dJ7_fill_53178_10 : decode cJ7_fill_53178 10 = .ok (.aload_n 0, 1) := by decide +kernel
theorem dJ7_fill_53178_11 : decode cJ7_fill_53178 11 = .ok (.iload_n 2, 1) := by decide +kernel
theorem dJ7_fill_53178_12 : decode cJ7_fill_53178 12 = .ok (.iload_n 1, 1) := by decide +kernel
theorem dJ7_fill_53178_13 : decode cJ7_fill_53178 13 = .ok (.iastore, 1) := by decide +kernel
theorem dJ7_fill_53178_14 : decode cJ7_fill_53178 14 = .ok (.iinc 2 1, 3) := by decide +kernel
theorem dJ7_fill_53178_17 : decode cJ7_fill_53178 17 = .ok (.goto (-12), 3) := by decide +kernel
theorem dJ7_fill_53178_20 : decode cJ7_fill_53178 20 = .ok (.return_, 1) := by decide +kernel
theorem dJ7_copyOf_59c91_0 : decode cJ7_copyOf_59c91 0 = .ok (.iload_n 1, 1) := by decide +kernel
theorem dJ7_copyOf_59c91_1 : decode cJ7_copyOf_59c91 1 = .ok (.aload_n 0, 1) := by decide +kernel
theorem dJ7_copyOf_59c91_2 : decode cJ7_copyOf_59c91 2 = .ok (.arraylength, 1) := by decide +kernel
theorem dJ7_copyOf_59c91_3 : decode cJ7_copyOf_59c91 3 = .ok (.if_icmp .ne 11, 3) := by decide +kernel
theorem dJ7_copyOf_59c91_6 : decode cJ7_copyOf_59c91 6 = .ok (.aload_n 0, 1) := by decide +kernel
theorem dJ7_copyOf_59c91_7 : decode cJ7_copyOf_59c91 7 = .ok (.invokevirtual 316, 3) := by decide +kernel
theorem dJ7_copyOf_59c91_10 : decode cJ7_copyOf_59c91 10 = .ok (.checkcast 317, 3) := by decide +kernel
theorem dJ7_copyOf_59c91_13 : decode cJ7_copyOf_59c91 13 = .ok (.areturn, 1) := by decide +kernel
theorem dJ7_copyOf_59c91_14 : decode cJ7_copyOf_59c91 14 = .ok (.iload_n 1, 1) := by decide +kernel
theorem dJ7_copyOf_59c91_15 : decode cJ7_copyOf_59c91 15 = .ok (.newarray .int, 2) := by decide +kernel
theorem dJ7_copyOf_59c91_17 : decode cJ7_copyOf_59c91 17 = .ok (.astore_n 2, 1) := by decide +kernel
theorem dJ7_copyOf_59c91_18 : decode cJ7_copyOf_59c91 18 = .ok (.aload_n 0, 1) := by decide +kernel
theorem dJ7_copyOf_59c91_19 : decode cJ7_copyOf_59c91 19 = .ok (.iconst 0, 1) := by decide +kernel
theorem dJ7_copyOf_59c91_20 : decode cJ7_copyOf_59c91 20 = .ok (.aload_n 2, 1) := by decide +kernel
theorem dJ7_copyOf_59c91_21 : decode cJ7_copyOf_59c91 21 = .ok (.iconst 0, 1) := by decide +kernel
theorem dJ7_copyOf_59c91_22 : decode cJ7_copyOf_59c91 22 = .ok (.aload_n 0, 1) := by decide +kernel
theorem dJ7_copyOf_59c91_23 : decode cJ7_copyOf_59c91 23 = .ok (.arraylength, 1) := by decide +kernel
theorem dJ7_copyOf_59c91_24 : decode cJ7_copyOf_59c91 24 = .ok (.iload_n 1, 1) := by decide +kernel
theorem dJ7_copyOf_59c91_25 : decode cJ7_copyOf_59c91 25 = .ok (.invokestatic 304, 3) := by decide +kernel
theorem dJ7_copyOf_59c91_28 : decode cJ7_copyOf_59c91 28 = .ok (.invokestatic 150, 3) := by decide +kernel
theorem dJ7_copyOf_59c91_31 : decode cJ7_copyOf_59c91 31 = .ok (.aload_n 2, 1) := by decide +kernel
theorem dJ7_copyOf_59c91_32 : decode cJ7_copyOf_59c91 32 = .ok (.areturn, 1) := by decide +kernel
