theorem dX7_accept_93 : decode cX7_accept 93 = .ok (.goto 12, 3) := by decide +kernel
theorem dX7_accept_96 : decode cX7_accept 96 = .ok (.aload_n 0, 1) := by decide +kernel
theorem dX7_accept_97 : decode cX7_accept 97 = .ok (.iload_n 1, 1) := by decide +kernel
theorem dX7_accept_98 : decode cX7_accept 98 = .ok (.iload_n 2, 1) := by decide +kernel
theorem dX7_accept_99 : decode cX7_accept 99 = .ok (.iload_n 3, 1) := by decide +kernel
theorem dX7_accept_100 : decode cX7_accept 100 = .ok (.iload 9, 2) := by decide +kernel
theorem dX7_accept_102 : decode cX7_accept 102 = .ok (.invokevirtual 149, 3) := by decide +kernel
theorem dX7_accept_105 : decode cX7_accept 105 = .ok (.return_, 1) := by decide +kernel
set_option maxRecDepth 20000 in
theorem ggX7_taken_X7_bits : GoodIn wsX7_taken wsX7_bits := goodIn_r _ [17] (by decide +kernel) (by decide +kernel)
set_option maxRecDepth 20000 in
theorem gX7_taken_X7_bits : GoodIn wsX7_taken (va_wsS RX7 145 yX7_bits wsX7_bits) := goodIn_app (goodIn_of _ (by decide +kernel)) ggX7_taken_X7_bits
theorem dX7_taken_0 : decode cX7_taken 0 = .ok (.aload_n 0, 1) := by decide +kernel
theorem dX7_taken_1 : decode cX7_taken 1 = .ok (.getfield 69, 3) := by decide +kernel
theorem dX7_taken_4 : decode cX7_taken 4 = .ok (.iload_n 1, 1) := by decide +kernel
theorem dX7_taken_5 : decode cX7_taken 5 = .ok (.iaload, 1) := by decide +kernel
theorem dX7_taken_6 : decode cX7_taken 6 = .ok (.iload_n 3, 1) := by decide +kernel
theorem dX7_taken_7 : decode cX7_taken 7 = .ok (.if_icmp .ne 26, 3) := by decide +kernel
theorem dX7_taken_10 : decode cX7_taken 10 = .ok (.aload_n 0, 1) := by decide +kernel
theorem dX7_taken_11 : decode cX7_taken 11 = .ok (.getfield 72, 3) := by decide +kernel
theorem dX7_taken_14 : decode cX7_taken 14 = .ok (.iload_n 1, 1) := by decide +kernel
theorem dX7_taken_15 : decode cX7_taken 15 = .ok (.baload, 1) := by decide +kernel
theorem dX7_taken_16 : decode cX7_taken 16 = .ok (.ifCond .eq 17, 3) := by decide +kernel
theorem dX7_taken_19 : decode cX7_taken 19 = .ok (.aload_n 0, 1) := by decide +kernel
theorem dX7_taken_20 : decode cX7_taken 20 = .ok (.getfield 75, 3) := by decide +kernel
theorem dX7_taken_23 : decode cX7_taken 23 = .ok (.iload_n 1, 1) := by decide +kernel
theorem dX7_taken_24 : decode cX7_taken 24 = .ok (.iaload, 1) := by decide +kernel
theorem dX7_taken_25 : decode cX7_taken 25 = .ok (.iload_n 2, 1) := by decide +kernel
theorem dX7_taken_26 : decode cX7_taken 26 = .ok (.ishr, 1) := by decide +kernel
theorem dX7_taken_27 : decode cX7_taken 27 = .ok (.iconst 1, 1) := by decide +kernel
theorem dX7_taken_28 : decode cX7_taken 28 = .ok (.iand, 1) := by decide +kernel
theorem dX7_taken_29 : decode cX7_taken 29 = .ok (.iconst 1, 1) := by decide +kernel
theorem dX7_taken_30 : decode cX7_taken 30 = .ok (.if_icmp .ne 4, 3) := by decide +kernel
theorem dX7_taken_33 : decode cX7_taken 33 = .ok (.return_, 1) := by decide +kernel
theorem dX7_taken_34 : decode cX7_taken 34 = .ok (.aload_n 0, 1) := by decide +kernel
theorem dX7_taken_35 : decode cX7_taken 35 = .ok (.getfield 75, 3) := by decide +kernel
theorem dX7_taken_38 : decode cX7_taken 38 = .ok (.iload_n 1, 1) := by decide +kernel
theorem dX7_taken_39 : decode cX7_taken 39 = .ok (.dup2, 1) := by decide +kernel
theorem dX7_taken_40 : decode cX7_taken 40 = .ok (.iaload, 1) := by decide +kernel
theorem dX7_taken_41 : decode cX7_taken 41 = .ok (.iconst 1, 1) := by decide +kernel
theorem dX7_taken_42 : decode cX7_taken 42 = .ok (.iload_n 2, 1) := by decide +kernel
theorem dX7_taken_43 : decode cX7_taken 43 = .ok (.ishl, 1) := by decide +kernel
theorem dX7_taken_44 : decode cX7_taken 44 = .ok (.ior, 1) := by decide +kernel
theorem dX7_taken_45 : decode cX7_taken 45 = .ok (.iastore, 1) := by decide +kernel
theorem dX7_taken_46 : decode cX7_taken 46 = .ok (.aload_n 0, 1) := by decide +kernel
theorem dX7_taken_47 : decode cX7_taken 47 = .ok (.getfield 75, 3) := by decide +kernel
theorem dX7_taken_50 : decode cX7_taken 50 = .ok (.iload_n 1, 1) := by decide +kernel
theorem dX7_taken_51 : decode cX7_taken 51 = .ok (.iaload, 1) := by decide +kernel
theorem dX7_taken_52 : decode cX7_taken 52 = .ok (.invokestatic 145, 3) := by decide +kernel
theorem dX7_taken_55 : decode cX7_taken 55 = .ok (.aload_n 0, 1) := by decide +kernel
theorem dX7_taken_56 : decode cX7_taken 56 = .ok (.getfield 66, 3) := by decide +kernel
theorem dX7_taken_59 : decode cX7_taken 59 = .ok (.iconst 2, 1) := by decide +kernel
theorem dX7_taken_60 : decode cX7_taken 60 = .ok (.iload_n 1, 1) := by decide +kernel
theorem dX7_taken_61 : decode cX7_taken 61 = .ok (.imul, 1) := by decide +kernel
theorem dX7_taken_62 : decode cX7_taken 62 = .ok (.iconst 1, 1) := by decide +kernel
theorem dX7_taken_63 : decode cX7_taken 63 = .ok (.iadd, 1) := by decide +kernel
theorem dX7_taken_64 : decode cX7_taken 64 = .ok (.iaload, 1) := by decide +kernel
theorem dX7_taken_65 : decode cX7_taken 65 = .ok (.if_icmp .lt 65, 3) := by decide +kernel
theorem dX7_taken_68 : decode cX7_taken 68 = .ok (.aload_n 0, 1) := by decide +kernel
theorem dX7_taken_69 : decode cX7_taken 69 = .ok (.getfield 105, 3) := by decide +kernel
theorem dX7_taken_72 : decode cX7_taken 72 = .ok (.iload_n 3, 1) := by decide +kernel
theorem dX7_taken_73 : decode cX7_taken 73 = .ok (.iconst 1, 1) := by decide +kernel
theorem dX7_taken_74 : decode cX7_taken 74 = .ok (.iastore, 1) := by decide +kernel
theorem dX7_taken_75 : decode cX7_taken 75 = .ok (.aload_n 0, 1) := by decide +kernel
theorem dX7_taken_76 : decode cX7_taken 76 = .ok (.getfield 108, 3) := by decide +kernel
theorem dX7_taken_79 : decode cX7_taken 79 = .ok (.iload_n 3, 1) := by decide +kernel
theorem dX7_taken_80 : decode cX7_taken 80 = .ok (.aload_n 0, 1) := by decide +kernel
theorem dX7_taken_81 : decode cX7_taken 81 = .ok (.getfield 90, 3) := by decide +kernel
theorem dX7_taken_84 : decode cX7_taken 84 = .ok (.iload_n 1, 1) := by decide +kernel
theorem dX7_taken_85 : decode cX7_taken 85 = .ok (.baload, 1) := by decide +kernel
theorem dX7_taken_86 : decode cX7_taken 86 = .ok (.bastore, 1) := by decide +kernel
theorem dX7_taken_87 : decode cX7_taken 87 = .ok (.aload_n 0, 1) := by decide +kernel
theorem dX7_taken_88 : decode cX7_taken 88 = .ok (.getfield 111, 3) := by decide +kernel
theorem dX7_taken_91 : decode cX7_taken 91 = .ok (.iload_n 3, 1) := by decide +kernel
theorem dX7_taken_92 : decode cX7_taken 92 = .ok (.aload_n 0, 1) := by decide +kernel
theorem dX7_taken_93 : decode cX7_taken 93 = .ok (.getfield 81, 3) := by decide +kernel
theorem dX7_taken_96 : decode cX7_taken 96 = .ok (.iload_n 1, 1) := by decide +kernel
theorem dX7_taken_97 : decode cX7_taken 97 = .ok (.baload, 1) := by decide +kernel
theorem dX7_taken_98 : decode cX7_taken 98 = .ok (.bastore, 1) := by decide +kernel
theorem dX7_taken_99 : decode cX7_taken 99 = .ok (.aload_n 0, 1) := by decide +kernel
theorem dX7_taken_100 : decode cX7_taken 100 = .ok (.getfield 114, 3) := by decide +kernel
theorem dX7_taken_103 : decode cX7_taken 103 = .ok (.iload_n 3, 1) := by decide +kernel
theorem dX7_taken_104 : decode cX7_taken 104 = .ok (.aload_n 0, 1) := by decide +kernel
theorem dX7_taken_105 : decode cX7_taken 105 = .ok (.getfield 84, 3) := by decide +kernel
theorem dX7_taken_108 : decode cX7_taken 108 = .ok (.iload_n 1, 1) := by decide +kernel
theorem dX7_taken_109 : decode cX7_taken 109 = .ok (.iaload, 1) := by decide +kernel
theorem dX7_taken_110 : decode cX7_taken 110 = .ok (.iastore, 1) := by decide +kernel
theorem dX7_taken_111 : decode cX7_taken 111 = .ok (.aload_n 0, 1) := by decide +kernel
theorem dX7_taken_112 : decode cX7_taken 112 = .ok (.getfield 117, 3) := by decide +kernel
theorem dX7_taken_115 : decode cX7_taken 115 = .ok (.iload_n 3, 1) := by decide +kernel
theorem dX7_taken_116 : decode cX7_taken 116 = .ok (.aload_n 0, 1) := by decide +kernel
theorem dX7_taken_117 : decode cX7_taken 117 = .ok (.getfield 87, 3) := by decide +kernel
theorem dX7_taken_120 : decode cX7_taken 120 = .ok (.iload_n 1, 1) := by decide +kernel
theorem dX7_taken_121 : decode cX7_taken 121 = .ok (.laload, 1) := by decide +kernel
theorem dX7_taken_122 : decode cX7_taken 122 = .ok (.lastore, 1) := by decide +kernel
theorem dX7_taken_123 : decode cX7_taken 123 = .ok (.aload_n 0, 1) := by decide +kernel
theorem dX7_taken_124 : decode cX7_taken 124 = .ok (.getfield 69, 3) := by decide +kernel
theorem dX7_taken_127 : decode cX7_taken 127 = .ok (.iload_n 1, 1) := by decide +kernel
theorem dX7_taken_128 : decode cX7_taken 128 = .ok (.iconst (-1), 1) := by decide +kernel
theorem dX7_taken_129 : decode cX7_taken 129 = .ok (.iastore, 1) := by decide +kernel
theorem dX7_taken_130 : decode cX7_taken 130 = .ok (.return_, 1) := by decide +kernel
set_option maxRecDepth 20000 in
theorem ggX7_refused_X7_lose0 : GoodIn wsX7_refused wsX7_lose0 := goodIn_r _ [7, 8, 2, 9, 10, 11, 12, 13, 14, 15, 16, 17, 18, 19, 20, 21, 22, 23, 24, 25, 26, 27, 28, 29, 30, 31, 32, 33, 34, 35, 36, 37, 38, 39, 40, 41, 42, 43, 44, 45, 46, 47] (by decide +kernel) (by decide +kernel)
set_option maxRecDepth 20000 in
theorem gX7_refused_X7_lose0 : GoodIn wsX7_refused (wsV RX7 141 RX7 yX7_lose0 wsX7_lose0) := goodIn_app (goodIn_of _ (by decide +kernel)) ggX7_refused_X7_lose0
theorem dX7_refused_0 : decode cX7_refused 0 = .ok (.aload_n 0, 1) := by decide +kernel
theorem dX7_refused_1 : decode cX7_refused 1 = .ok (.getfield 54, 3) := by decide +kernel
theorem dX7_refused_4 : decode cX7_refused 4 = .ok (.iload_n 1, 1) := by decide +kernel
theorem dX7_refused_5 : decode cX7_refused 5 = .ok (.iload_n 3, 1) := by decide +kernel
theorem dX7_refused_6 : decode cX7_refused 6 = .ok (.iconst 4, 1) := by decide +kernel
theorem dX7_refused_7 : decode cX7_refused 7 = .ok (.idiv, 1) := by decide +kernel
theorem dX7_refused_8 : decode cX7_refused 8 = .ok (.aload_n 0, 1) := by decide +kernel
theorem dX7_refused_9 : decode cX7_refused 9 = .ok (.getfield 54, 3) := by decide +kernel
theorem dX7_refused_12 : decode cX7_refused 12 = .ok (.iload_n 1, 1) := by decide +kernel
theorem dX7_refused_13 : decode cX7_refused 13 = .ok (.iaload, 1) := by decide +kernel
theorem dX7_refused_14 : decode cX7_refused 14 = .ok (.if_icmp .le 9, 3) := by decide +kernel
theorem dX7_refused_17 : decode cX7_refused 17 = .ok (.iload_n 3, 1) := by decide +kernel
theorem dX7_refused_18 : decode cX7_refused 18 = .ok (.iconst 4, 1) := by decide +kernel
theorem dX7_refused_19 : decode cX7_refused 19 = .ok (.idiv, 1) := by decide +kernel
theorem dX7_refused_20 : decode cX7_refused 20 = .ok (.goto 9, 3) := by decide +kernel
theorem dX7_refused_23 : decode cX7_refused 23 = .ok (.aload_n 0, 1) := by decide +kernel
theorem dX7_refused_24 : decode cX7_refused 24 = .ok (.getfield 54, 3) := by decide +kernel
theorem dX7_refused_27 : decode cX7_refused 27 = .ok (.iload_n 1, 1) := by decide +kernel
theorem dX7_refused_28 : decode cX7_refused 28 = .ok (.iaload, 1) := by decide +kernel
theorem dX7_refused_29 : decode cX7_refused 29 = .ok (.iastore, 1) := by decide +kernel
theorem dX7_refused_30 : decode cX7_refused 30 = .ok (.aload_n 0, 1) := by decide +kernel
theorem dX7_refused_31 : decode cX7_refused 31 = .ok (.getfield 69, 3) := by decide +kernel
theorem dX7_refused_34 : decode cX7_refused 34 = .ok (.iload_n 1, 1) := by decide +kernel
theorem dX7_refused_35 : decode cX7_refused 35 = .ok (.iaload, 1) := by decide +kernel
theorem dX7_refused_36 : decode cX7_refused 36 = .ok (.iload_n 2, 1) := by decide +kernel
theorem dX7_refused_37 : decode cX7_refused 37 = .ok (.if_icmp .ne 8, 3) := by decide +kernel
theorem dX7_refused_40 : decode cX7_refused 40 = .ok (.aload_n 0, 1) := by decide +kernel
theorem dX7_refused_41 : decode cX7_refused 41 = .ok (.iload_n 1, 1) := by decide +kernel
theorem dX7_refused_42 : decode cX7_refused 42 = .ok (.invokevirtual 141, 3) := by decide +kernel
theorem dX7_refused_45 : decode cX7_refused 45 = .ok (.return_, 1) := by decide +kernel
set_option maxRecDepth 20000 in
theorem ggX7_takeOne_X7_drop : GoodIn wsX7_takeOne wsX7_drop := goodIn_r _ [14, 15, 1, 2, 3, 4, 5, 6, 7, 8, 80, 81, 82, 83, 84, 85, 86, 87, 88, 89, 90, 91, 92, 93, 94, 95, 96, 97, 98, 99, 100, 101, 102, 103, 104, 105, 106, 107, 108, 109, 110, 111, 112, 113, 114, 115, 116, 117, 118] (by decide +kernel) (by decide +kernel)
set_option maxRecDepth 20000 in
theorem gX7_takeOne_X7_drop : GoodIn wsX7_takeOne (wsV RX7 156 RX7 yX7_drop wsX7_drop) := goodIn_app (goodIn_of _ (by decide +kernel)) ggX7_takeOne_X7_drop
set_option maxRecDepth 20000 in
theorem ggX7_takeOne_X7_prepared : GoodIn wsX7_takeOne wsX7_prepared := goodIn_r _ [19, 20, 21, 22, 23, 24, 25, 26, 27, 28, 13, 29, 15, 1, 2, 3, 4, 5, 6, 7, 8, 30, 31, 32, 33, 80, 81, 82, 83, 84, 85, 86, 87, 88, 89, 90, 91, 92, 93, 94, 95, 96, 97, 98, 99, 100, 101, 102, 103, 104, 105, 106, 107, 108, 109, 110, 111, 112, 113, 114, 115, 116, 117, 118] (by decide +kernel) (by decide +kernel)
set_option maxRecDepth 20000 in
theorem gX7_takeOne_X7_prepared : GoodIn wsX7_takeOne (wsV RX7 159 RX7 yX7_prepared wsX7_prepared) := goodIn_app (goodIn_of _ (by decide +kernel)) ggX7_takeOne_X7_prepared
set_option maxRecDepth 20000 in
theorem ggX7_takeOne_X7_promised : GoodIn wsX7_takeOne wsX7_promised := goodIn_r _ [37, 38, 39, 40, 41, 42, 43, 44, 45, 46, 47, 48, 49, 13, 50, 51, 52, 53, 54, 55, 56, 57, 26, 27, 28, 29, 15, 1, 2, 3, 4, 5, 6, 7, 8, 80, 81, 82, 83, 84, 85, 86, 87, 88, 89, 90, 91, 92, 93, 94, 95, 96, 97, 98, 99, 100, 101, 102, 103, 104, 105, 106, 107, 108, 109, 110, 111, 112, 113, 114, 115, 116, 117, 118] (by decide +kernel) (by decide +kernel)
set_option maxRecDepth 20000 in
theorem gX7_takeOne_X7_promised : GoodIn wsX7_takeOne (wsV RX7 162 RX7 yX7_promised wsX7_promised) := goodIn_app (goodIn_of _ (by decide +kernel)) ggX7_takeOne_X7_promised
set_option maxRecDepth 20000 in
theorem ggX7_takeOne_X7_accept : GoodIn wsX7_takeOne wsX7_accept := goodIn_r _ [61, 20, 21, 22, 23, 24, 25, 26, 27, 28, 13, 29, 15, 1, 2, 3, 4, 5, 6, 7, 8, 30, 31, 32, 33, 80, 81, 82, 83, 84, 85, 86, 87, 88, 89, 90, 91, 92, 93, 94, 95, 96, 97, 98, 99, 100, 101, 102, 103, 104, 105, 106, 107, 108, 109, 110, 111, 112, 113, 114, 115, 116, 117, 118] (by decide +kernel) (by decide +kernel)
set_option maxRecDepth 20000 in
theorem gX7_takeOne_X7_accept : GoodIn wsX7_takeOne (wsV RX7 166 RX7 yX7_accept wsX7_accept) := goodIn_app (goodIn_of _ (by decide +kernel)) ggX7_takeOne_X7_accept
set_option maxRecDepth 20000 in
theorem ggX7_takeOne_X7_taken : GoodIn wsX7_takeOne wsX7_taken := goodIn_r _ [65, 38, 39, 40, 45, 66, 67, 57, 68, 42, 69, 43, 70, 44, 48, 49, 13, 50, 80, 81, 82, 83, 84, 85, 86, 87, 88, 89, 90, 91, 92, 93, 94, 95, 96, 97, 98, 99, 100, 101, 102, 103, 104, 105, 106, 107, 108, 109, 110, 111, 112, 113, 114, 115, 116, 117, 118] (by decide +kernel) (by decide +kernel)
set_option maxRecDepth 20000 in
theorem gX7_takeOne_X7_taken : GoodIn wsX7_takeOne (wsV RX7 169 RX7 yX7_taken wsX7_taken) := goodIn_app (goodIn_of _ (by decide +kernel)) ggX7_takeOne_X7_taken
set_option maxRecDepth 20000 in
theorem ggX7_takeOne_X7_refused : GoodIn wsX7_takeOne wsX7_refused := goodIn_r _ [74, 75, 38, 76, 77, 78, 13, 79, 66, 80, 81, 82, 83, 84, 85, 86, 87, 88, 89, 90, 91, 92, 93, 94, 95, 96, 97, 98, 99, 100, 101, 102, 103, 104, 105, 106, 107, 108, 109, 110, 111, 112, 113, 114, 115, 116, 117, 118] (by decide +kernel) (by decide +kernel)
set_option maxRecDepth 20000 in
theorem gX7_takeOne_X7_refused : GoodIn wsX7_takeOne (wsV RX7 173 RX7 yX7_refused wsX7_refused) := goodIn_app (goodIn_of _ (by decide +kernel)) ggX7_takeOne_X7_refused
theorem dX7_takeOne_0 : decode cX7_takeOne 0 = .ok (.aload_n 0, 1) := by decide +kernel
theorem dX7_takeOne_1 : decode cX7_takeOne 1 = .ok (.getfield 7, 3) := by decide +kernel
theorem dX7_takeOne_4 : decode cX7_takeOne 4 = .ok (.iload_n 1, 1) := by decide +kernel
theorem dX7_takeOne_5 : decode cX7_takeOne 5 = .ok (.iaload, 1) := by decide +kernel
theorem dX7_takeOne_6 : decode cX7_takeOne 6 = .ok (.istore_n 2, 1) := by decide +kernel
theorem dX7_takeOne_7 : decode cX7_takeOne 7 = .ok (.aload_n 0, 1) := by decide +kernel
theorem dX7_takeOne_8 : decode cX7_takeOne 8 = .ok (.getfield 13, 3) := by decide +kernel
theorem dX7_takeOne_11 : decode cX7_takeOne 11 = .ok (.iload_n 1, 1) := by decide +kernel
theorem dX7_takeOne_12 : decode cX7_takeOne 12 = .ok (.iaload, 1) := by decide +kernel
theorem dX7_takeOne_13 : decode cX7_takeOne 13 = .ok (.istore_n 3, 1) := by decide +kernel
theorem dX7_takeOne_14 : decode cX7_takeOne 14 = .ok (.aload_n 0, 1) := by decide +kernel
theorem dX7_takeOne_15 : decode cX7_takeOne 15 = .ok (.getfield 16, 3) := by decide +kernel
theorem dX7_takeOne_18 : decode cX7_takeOne 18 = .ok (.iload_n 1, 1) := by decide +kernel
theorem dX7_takeOne_19 : decode cX7_takeOne 19 = .ok (.iaload, 1) := by decide +kernel
theorem dX7_takeOne_20 : decode cX7_takeOne 20 = .ok (.istore 4, 2) := by decide +kernel
theorem dX7_takeOne_22 : decode cX7_takeOne 22 = .ok (.aload_n 0, 1) := by decide +kernel
theorem dX7_takeOne_23 : decode cX7_takeOne 23 = .ok (.getfield 19, 3) := by decide +kernel
theorem dX7_takeOne_26 : decode cX7_takeOne 26 = .ok (.iload_n 1, 1) := by decide +kernel
theorem dX7_takeOne_27 : decode cX7_takeOne 27 = .ok (.iaload, 1) := by decide +kernel
theorem dX7_takeOne_28 : decode cX7_takeOne 28 = .ok (.istore 5, 2) := by decide +kernel
theorem dX7_takeOne_30 : decode cX7_takeOne 30 = .ok (.aload_n 0, 1) := by decide +kernel
theorem dX7_takeOne_31 : decode cX7_takeOne 31 = .ok (.getfield 22, 3) := by decide +kernel
theorem dX7_takeOne_34 : decode cX7_takeOne 34 = .ok (.iload_n 1, 1) := by decide +kernel
theorem dX7_takeOne_35 : decode cX7_takeOne 35 = .ok (.iaload, 1) := by decide +kernel
theorem dX7_takeOne_36 : decode cX7_takeOne 36 = .ok (.istore 6, 2) := by decide +kernel
theorem dX7_takeOne_38 : decode cX7_takeOne 38 = .ok (.aload_n 0, 1) := by decide +kernel
theorem dX7_takeOne_39 : decode cX7_takeOne 39 = .ok (.getfield 25, 3) := by decide +kernel
theorem dX7_takeOne_42 : decode cX7_takeOne 42 = .ok (.iload_n 1, 1) := by decide +kernel
theorem dX7_takeOne_43 : decode cX7_takeOne 43 = .ok (.baload, 1) := by decide +kernel
theorem dX7_takeOne_44 : decode cX7_takeOne 44 = .ok (.istore 7, 2) := by decide +kernel
theorem dX7_takeOne_46 : decode cX7_takeOne 46 = .ok (.aload_n 0, 1) := by decide +kernel
theorem dX7_takeOne_47 : decode cX7_takeOne 47 = .ok (.getfield 29, 3) := by decide +kernel
theorem dX7_takeOne_50 : decode cX7_takeOne 50 = .ok (.iload_n 1, 1) := by decide +kernel
theorem dX7_takeOne_51 : decode cX7_takeOne 51 = .ok (.iaload, 1) := by decide +kernel
theorem dX7_takeOne_52 : decode cX7_takeOne 52 = .ok (.istore 8, 2) := by decide +kernel
theorem dX7_takeOne_54 : decode cX7_takeOne 54 = .ok (.aload_n 0, 1) := by decide +kernel
theorem dX7_takeOne_55 : decode cX7_takeOne 55 = .ok (.getfield 32, 3) := by decide +kernel
theorem dX7_takeOne_58 : decode cX7_takeOne 58 = .ok (.iload_n 1, 1) := by decide +kernel
theorem dX7_takeOne_59 : decode cX7_takeOne 59 = .ok (.laload, 1) := by decide +kernel
theorem dX7_takeOne_60 : decode cX7_takeOne 60 = .ok (.lstore 9, 2) := by decide +kernel
theorem dX7_takeOne_62 : decode cX7_takeOne 62 = .ok (.aload_n 0, 1) := by decide +kernel
theorem dX7_takeOne_63 : decode cX7_takeOne 63 = .ok (.iload_n 1, 1) := by decide +kernel
theorem dX7_takeOne_64 : decode cX7_takeOne 64 = .ok (.invokevirtual 156, 3) := by decide +kernel
theorem dX7_takeOne_67 : decode cX7_takeOne 67 = .ok (.iload_n 2, 1) := by decide +kernel
theorem dX7_takeOne_68 : decode cX7_takeOne 68 = .ok (.ifCond .ne 27, 3) := by decide +kernel
theorem dX7_takeOne_71 : decode cX7_takeOne 71 = .ok (.aload_n 0, 1) := by decide +kernel
theorem dX7_takeOne_72 : decode cX7_takeOne 72 = .ok (.getfield 36, 3) := by decide +kernel
theorem dX7_takeOne_75 : decode cX7_takeOne 75 = .ok (.iload 4, 2) := by decide +kernel
theorem dX7_takeOne_77 : decode cX7_takeOne 77 = .ok (.baload, 1) := by decide +kernel
theorem dX7_takeOne_78 : decode cX7_takeOne 78 = .ok (.ifCond .ne 17, 3) := by decide +kernel
theorem dX7_takeOne_81 : decode cX7_takeOne 81 = .ok (.aload_n 0, 1) := by decide +kernel
theorem dX7_takeOne_82 : decode cX7_takeOne 82 = .ok (.iload_n 3, 1) := by decide +kernel
theorem dX7_takeOne_83 : decode cX7_takeOne 83 = .ok (.iload 4, 2) := by decide +kernel
theorem dX7_takeOne_85 : decode cX7_takeOne 85 = .ok (.iload 5, 2) := by decide +kernel
theorem dX7_takeOne_87 : decode cX7_takeOne 87 = .ok (.iload 6, 2) := by decide +kernel
theorem dX7_takeOne_89 : decode cX7_takeOne 89 = .ok (.invokevirtual 159, 3) := by decide +kernel
theorem dX7_takeOne_92 : decode cX7_takeOne 92 = .ok (.goto 94, 3) := by decide +kernel
theorem dX7_takeOne_95 : decode cX7_takeOne 95 = .ok (.iload_n 2, 1) := by decide +kernel
theorem dX7_takeOne_96 : decode cX7_takeOne 96 = .ok (.iconst 1, 1) := by decide +kernel
theorem dX7_takeOne_97 : decode cX7_takeOne 97 = .ok (.if_icmp .ne 23, 3) := by decide +kernel
theorem dX7_takeOne_100 : decode cX7_takeOne 100 = .ok (.aload_n 0, 1) := by decide +kernel
theorem dX7_takeOne_101 : decode cX7_takeOne 101 = .ok (.iload_n 3, 1) := by decide +kernel
theorem dX7_takeOne_102 : decode cX7_takeOne 102 = .ok (.iload 4, 2) := by decide +kernel
theorem dX7_takeOne_104 : decode cX7_takeOne 104 = .ok (.iload 5, 2) := by decide +kernel
theorem dX7_takeOne_106 : decode cX7_takeOne 106 = .ok (.iload 6, 2) := by decide +kernel
theorem dX7_takeOne_108 : decode cX7_takeOne 108 = .ok (.iload 7, 2) := by decide +kernel
theorem dX7_takeOne_110 : decode cX7_takeOne 110 = .ok (.iload 8, 2) := by decide +kernel
theorem dX7_takeOne_112 : decode cX7_takeOne 112 = .ok (.lload 9, 2) := by decide +kernel
theorem dX7_takeOne_114 : decode cX7_takeOne 114 = .ok (.invokevirtual 162, 3) := by decide +kernel
theorem dX7_takeOne_117 : decode cX7_takeOne 117 = .ok (.goto 69, 3) := by decide +kernel
theorem dX7_takeOne_120 : decode cX7_takeOne 120 = .ok (.iload_n 2, 1) := by decide +kernel
theorem dX7_takeOne_121 : decode cX7_takeOne 121 = .ok (.iconst 2, 1) := by decide +kernel
theorem dX7_takeOne_122 : decode cX7_takeOne 122 = .ok (.if_icmp .ne 33, 3) := by decide +kernel
theorem dX7_takeOne_125 : decode cX7_takeOne 125 = .ok (.aload_n 0, 1) := by decide +kernel
theorem dX7_takeOne_126 : decode cX7_takeOne 126 = .ok (.getfield 36, 3) := by decide +kernel
theorem dX7_takeOne_129 : decode cX7_takeOne 129 = .ok (.iload 4, 2) := by decide +kernel
theorem dX7_takeOne_131 : decode cX7_takeOne 131 = .ok (.baload, 1) := by decide +kernel
theorem dX7_takeOne_132 : decode cX7_takeOne 132 = .ok (.ifCond .ne 23, 3) := by decide +kernel
theorem dX7_takeOne_135 : decode cX7_takeOne 135 = .ok (.aload_n 0, 1) := by decide +kernel
theorem dX7_takeOne_136 : decode cX7_takeOne 136 = .ok (.iload_n 3, 1) := by decide +kernel
theorem dX7_takeOne_137 : decode cX7_takeOne 137 = .ok (.iload 4, 2) := by decide +kernel
theorem dX7_takeOne_139 : decode cX7_takeOne 139 = .ok (.iload 5, 2) := by decide +kernel
theorem dX7_takeOne_141 : decode cX7_takeOne 141 = .ok (.iload 6, 2) := by decide +kernel
theorem dX7_takeOne_143 : decode cX7_takeOne 143 = .ok (.iload 7, 2) := by decide +kernel
theorem dX7_takeOne_145 : decode cX7_takeOne 145 = .ok (.iload 8, 2) := by decide +kernel
theorem dX7_takeOne_147 : decode cX7_takeOne 147 = .ok (.lload 9, 2) := by decide +kernel
theorem dX7_takeOne_149 : decode cX7_takeOne 149 = .ok (.invokevirtual 166, 3) := by decide +kernel
theorem dX7_takeOne_152 : decode cX7_takeOne 152 = .ok (.goto 34, 3) := by decide +kernel
theorem dX7_takeOne_155 : decode cX7_takeOne 155 = .ok (.iload_n 2, 1) := by decide +kernel
theorem dX7_takeOne_156 : decode cX7_takeOne 156 = .ok (.iconst 3, 1) := by decide +kernel
theorem dX7_takeOne_157 : decode cX7_takeOne 157 = .ok (.if_icmp .ne 15, 3) := by decide +kernel
theorem dX7_takeOne_160 : decode cX7_takeOne 160 = .ok (.aload_n 0, 1) := by decide +kernel
theorem dX7_takeOne_161 : decode cX7_takeOne 161 = .ok (.iload_n 3, 1) := by decide +kernel
theorem dX7_takeOne_162 : decode cX7_takeOne 162 = .ok (.iload 4, 2) := by decide +kernel
theorem dX7_takeOne_164 : decode cX7_takeOne 164 = .ok (.iload 5, 2) := by decide +kernel
theorem dX7_takeOne_166 : decode cX7_takeOne 166 = .ok (.invokevirtual 169, 3) := by decide +kernel
theorem dX7_takeOne_169 : decode cX7_takeOne 169 = .ok (.goto 17, 3) := by decide +kernel
theorem dX7_takeOne_172 : decode cX7_takeOne 172 = .ok (.iload_n 2, 1) := by decide +kernel
theorem dX7_takeOne_173 : decode cX7_takeOne 173 = .ok (.iconst 4, 1) := by decide +kernel
theorem dX7_takeOne_174 : decode cX7_takeOne 174 = .ok (.if_icmp .ne 12, 3) := by decide +kernel
theorem dX7_takeOne_177 : decode cX7_takeOne 177 = .ok (.aload_n 0, 1) := by decide +kernel
theorem dX7_takeOne_178 : decode cX7_takeOne 178 = .ok (.iload_n 3, 1) := by decide +kernel
theorem dX7_takeOne_179 : decode cX7_takeOne 179 = .ok (.iload 5, 2) := by decide +kernel
theorem dX7_takeOne_181 : decode cX7_takeOne 181 = .ok (.iload 6, 2) := by decide +kernel
theorem dX7_takeOne_183 : decode cX7_takeOne 183 = .ok (.invokevirtual 173, 3) := by decide +kernel
theorem dX7_takeOne_186 : decode cX7_takeOne 186 = .ok (.iload_n 2, 1) := by decide +kernel
theorem dX7_takeOne_187 : decode cX7_takeOne 187 = .ok (.ireturn, 1) := by decide +kernel
set_option maxRecDepth 20000 in
theorem ggX7_take_X7_noMessage : GoodIn wsX7_take wsX7_noMessage := goodIn_r _ [6, 7, 89, 90, 91, 92, 93, 94, 95, 96, 97, 98, 99, 100, 101, 102, 103, 104, 105, 106, 107, 108, 109, 110, 111, 112, 113, 114, 115, 116, 117, 118, 119, 120, 121, 122, 123, 124, 125, 126, 127] (by decide +kernel) (by decide +kernel)
set_option maxRecDepth 20000 in
theorem gX7_take_X7_noMessage : GoodIn wsX7_take (wsV RX7 176 RX7 yX7_noMessage wsX7_noMessage) := goodIn_app (goodIn_of _ (by decide +kernel)) ggX7_take_X7_noMessage
set_option maxRecDepth 20000 in
theorem ggX7_take_X7_takeOne : GoodIn wsX7_take wsX7_takeOne := goodIn_r _ [11, 12, 13, 14, 15, 16, 17, 18, 19, 20, 21, 22, 23, 5, 24, 7, 25, 26, 27, 28, 29, 30, 31, 32, 33, 34, 35, 36, 37, 38, 39, 40, 41, 42, 43, 44, 45, 46, 47, 48, 49, 50, 51, 52, 53, 54, 55, 56, 57, 58, 59, 60, 61, 62, 63, 64, 65, 66, 67, 68, 69, 70, 71, 72, 73, 74, 75, 76, 77, 78, 79, 80, 81, 82, 83, 84, 85, 86, 87, 88, 89, 90, 91, 92, 93, 94, 95, 96, 97, 98, 99, 100, 101, 102, 103, 104, 105, 106, 107, 108, 109, 110, 111, 112, 113, 114, 115, 116, 117, 118, 119, 120, 121, 122, 123, 124, 125, 126, 127] (by decide +kernel) (by decide +kernel)
set_option maxRecDepth 20000 in
theorem gX7_take_X7_takeOne : GoodIn wsX7_take (wsV RX7 179 RX7 yX7_takeOne wsX7_takeOne) := goodIn_app (goodIn_of _ (by decide +kernel)) ggX7_take_X7_takeOne
theorem dX7_take_0 : decode cX7_take 0 = .ok (.aload_n 0, 1) := by decide +kernel
theorem dX7_take_1 : decode cX7_take 1 = .ok (.aload_n 0, 1) := by decide +kernel
theorem dX7_take_2 : decode cX7_take 2 = .ok (.iload_n 1, 1) := by decide +kernel
theorem dX7_take_3 : decode cX7_take 3 = .ok (.invokevirtual 176, 3) := by decide +kernel
theorem dX7_take_6 : decode cX7_take 6 = .ok (.ifCond .eq 7, 3) := by decide +kernel
theorem dX7_take_9 : decode cX7_take 9 = .ok (.iconst 1, 1) := by decide +kernel
theorem dX7_take_10 : decode cX7_take 10 = .ok (.goto 4, 3) := by decide +kernel
theorem dX7_take_13 : decode cX7_take 13 = .ok (.iconst 0, 1) := by decide +kernel
theorem dX7_take_14 : decode cX7_take 14 = .ok (.putfield 120, 3) := by decide +kernel
theorem dX7_take_17 : decode cX7_take 17 = .ok (.aload_n 0, 1) := by decide +kernel
theorem dX7_take_18 : decode cX7_take 18 = .ok (.getfield 120, 3) := by decide +kernel
theorem dX7_take_21 : decode cX7_take 21 = .ok (.ifCond .le 7, 3) := by decide +kernel
theorem dX7_take_24 : decode cX7_take 24 = .ok (.iconst 0, 1) := by decide +kernel
theorem dX7_take_25 : decode cX7_take 25 = .ok (.goto 8, 3) := by decide +kernel
theorem dX7_take_28 : decode cX7_take 28 = .ok (.aload_n 0, 1) := by decide +kernel
theorem dX7_take_29 : decode cX7_take 29 = .ok (.iload_n 1, 1) := by decide +kernel
theorem dX7_take_30 : decode cX7_take 30 = .ok (.invokevirtual 179, 3) := by decide +kernel
theorem dX7_take_33 : decode cX7_take 33 = .ok (.ireturn, 1) := by decide +kernel
set_option maxRecDepth 20000 in
theorem ggX7_run_X7_takeOne : GoodIn wsX7_run wsX7_takeOne := goodIn_r _ [7, 8, 9, 10, 11, 12, 13, 14, 15, 16, 17, 18, 19, 6, 20, 2, 21, 22, 23, 24, 25, 26, 27, 28, 29, 30, 31, 32, 33, 34, 35, 36, 37, 38, 39, 40, 41, 42, 43, 44, 45, 46, 47, 48, 49, 50, 51, 52, 53, 54, 55, 56, 57, 58, 59, 60, 61, 62, 63, 64, 65, 66, 67, 68, 69, 70, 71, 72, 73, 74, 75, 76, 77, 78, 79, 80, 81, 82, 83, 84, 85, 86, 87, 88, 89, 90, 91, 92, 93, 94, 95, 96, 97, 98, 99, 100, 101, 102, 103, 104, 105, 106, 107, 108, 109, 110, 111, 112, 113, 114, 115, 116, 117, 118, 119, 120, 121, 122, 123] (by decide +kernel) (by decide +kernel)
set_option maxRecDepth 20000 in
theorem gX7_run_X7_takeOne : GoodIn wsX7_run (wsV RX7 179 RX7 yX7_takeOne wsX7_takeOne) := goodIn_app (goodIn_of _ (by decide +kernel)) ggX7_run_X7_takeOne
theorem dX7_run_0 : decode cX7_run 0 = .ok (.aload_n 0, 1) := by decide +kernel
theorem dX7_run_1 : decode cX7_run 1 = .ok (.iload_n 1, 1) := by decide +kernel
theorem dX7_run_2 : decode cX7_run 2 = .ok (.ifCond .lt 10, 3) := by decide +kernel
theorem dX7_run_5 : decode cX7_run 5 = .ok (.iload_n 1, 1) := by decide +kernel
theorem dX7_run_6 : decode cX7_run 6 = .ok (.sipush 1000, 3) := by decide +kernel
theorem dX7_run_9 : decode cX7_run 9 = .ok (.if_icmp .le 7, 3) := by decide +kernel
theorem dX7_run_12 : decode cX7_run 12 = .ok (.iconst 1, 1) := by decide +kernel
theorem dX7_run_13 : decode cX7_run 13 = .ok (.goto 4, 3) := by decide +kernel
theorem dX7_run_16 : decode cX7_run 16 = .ok (.iconst 0, 1) := by decide +kernel
theorem dX7_run_17 : decode cX7_run 17 = .ok (.putfield 120, 3) := by decide +kernel
theorem dX7_run_20 : decode cX7_run 20 = .ok (.iconst 0, 1) := by decide +kernel
theorem dX7_run_21 : decode cX7_run 21 = .ok (.istore_n 2, 1) := by decide +kernel
theorem dX7_run_22 : decode cX7_run 22 = .ok (.aload_n 0, 1) := by decide +kernel
theorem dX7_run_23 : decode cX7_run 23 = .ok (.getfield 120, 3) := by decide +kernel
theorem dX7_run_26 : decode cX7_run 26 = .ok (.ifCond .ne 27, 3) := by decide +kernel
theorem dX7_run_29 : decode cX7_run 29 = .ok (.iload_n 2, 1) := by decide +kernel
theorem dX7_run_30 : decode cX7_run 30 = .ok (.iload_n 1, 1) := by decide +kernel
theorem dX7_run_31 : decode cX7_run 31 = .ok (.if_icmp .ge 22, 3) := by decide +kernel
theorem dX7_run_34 : decode cX7_run 34 = .ok (.aload_n 0, 1) := by decide +kernel
theorem dX7_run_35 : decode cX7_run 35 = .ok (.getfield 124, 3) := by decide +kernel
theorem dX7_run_38 : decode cX7_run 38 = .ok (.ifCond .le 15, 3) := by decide +kernel
theorem dX7_run_41 : decode cX7_run 41 = .ok (.aload_n 0, 1) := by decide +kernel
theorem dX7_run_42 : decode cX7_run 42 = .ok (.iconst 0, 1) := by decide +kernel
theorem dX7_run_43 : decode cX7_run 43 = .ok (.invokevirtual 179, 3) := by decide +kernel
theorem dX7_run_46 : decode cX7_run 46 = .ok (.istore_n 3, 1) := by decide +kernel
theorem dX7_run_47 : decode cX7_run 47 = .ok (.iinc 2 1, 3) := by decide +kernel
theorem dX7_run_50 : decode cX7_run 50 = .ok (.goto (-28), 3) := by decide +kernel
theorem dX7_run_53 : decode cX7_run 53 = .ok (.iload_n 2, 1) := by decide +kernel
theorem dX7_run_54 : decode cX7_run 54 = .ok (.ireturn, 1) := by decide +kernel
set_option maxRecDepth 20000 in
theorem ggX7_lose_X7_noMessage : GoodIn wsX7_lose wsX7_noMessage := goodIn_r _ [7, 8, 20, 21, 22, 23, 24, 25, 26, 27, 28, 29, 30, 31, 32, 33, 34, 35, 36, 37, 38, 39, 40, 41, 42, 43, 44, 45, 46, 47, 48, 49, 50, 51, 52, 53, 54, 55, 56, 57, 58] (by decide +kernel) (by decide +kernel)
set_option maxRecDepth 20000 in
theorem gX7_lose_X7_noMessage : GoodIn wsX7_lose (wsV RX7 176 RX7 yX7_noMessage wsX7_noMessage) := goodIn_app (goodIn_of _ (by decide +kernel)) ggX7_lose_X7_noMessage
set_option maxRecDepth 20000 in
theorem ggX7_lose_X7_drop : GoodIn wsX7_lose wsX7_drop := goodIn_r _ [12, 8, 2, 13, 14, 15, 16, 17, 18, 19, 20, 21, 22, 23, 24, 25, 26, 27, 28, 29, 30, 31, 32, 33, 34, 35, 36, 37, 38, 39, 40, 41, 42, 43, 44, 45, 46, 47, 48, 49, 50, 51, 52, 53, 54, 55, 56, 57, 58] (by decide +kernel) (by decide +kernel)
set_option maxRecDepth 20000 in
theorem gX7_lose_X7_drop : GoodIn wsX7_lose (wsV RX7 156 RX7 yX7_drop wsX7_drop) := goodIn_app (goodIn_of _ (by decide +kernel)) ggX7_lose_X7_drop
theorem dX7_lose_0 : decode cX7_lose 0 = .ok (.aload_n 0, 1) := by decide +kernel
theorem dX7_lose_1 : decode cX7_lose 1 = .ok (.aload_n 0, 1) := by decide +kernel
theorem dX7_lose_2 : decode cX7_lose 2 = .ok (.iload_n 1, 1) := by decide +kernel
theorem dX7_lose_3 : decode cX7_lose 3 = .ok (.invokevirtual 176, 3) := by decide +kernel
theorem dX7_lose_6 : decode cX7_lose 6 = .ok (.ifCond .eq 7, 3) := by decide +kernel
theorem dX7_lose_9 : decode cX7_lose 9 = .ok (.iconst 1, 1) := by decide +kernel
theorem dX7_lose_10 : decode cX7_lose 10 = .ok (.goto 4, 3) := by decide +kernel
theorem dX7_lose_13 : decode cX7_lose 13 = .ok (.iconst 0, 1) := by decide +kernel
theorem dX7_lose_14 : decode cX7_lose 14 = .ok (.putfield 120, 3) := by decide +kernel
theorem dX7_lose_17 : decode cX7_lose 17 = .ok (.aload_n 0, 1) := by decide +kernel
theorem dX7_lose_18 : decode cX7_lose 18 = .ok (.getfield 120, 3) := by decide +kernel
theorem dX7_lose_21 : decode cX7_lose 21 = .ok (.ifCond .le 5, 3) := by decide +kernel
theorem dX7_lose_24 : decode cX7_lose 24 = .ok (.iconst 0, 1) := by decide +kernel
theorem dX7_lose_25 : decode cX7_lose 25 = .ok (.ireturn, 1) := by decide +kernel
theorem dX7_lose_26 : decode cX7_lose 26 = .ok (.aload_n 0, 1) := by decide +kernel
theorem dX7_lose_27 : decode cX7_lose 27 = .ok (.getfield 7, 3) := by decide +kernel
theorem dX7_lose_30 : decode cX7_lose 30 = .ok (.iload_n 1, 1) := by decide +kernel
theorem dX7_lose_31 : decode cX7_lose 31 = .ok (.iaload, 1) := by decide +kernel
theorem dX7_lose_32 : decode cX7_lose 32 = .ok (.istore_n 2, 1) := by decide +kernel
theorem dX7_lose_33 : decode cX7_lose 33 = .ok (.aload_n 0, 1) := by decide +kernel
theorem dX7_lose_34 : decode cX7_lose 34 = .ok (.iload_n 1, 1) := by decide +kernel
theorem dX7_lose_35 : decode cX7_lose 35 = .ok (.invokevirtual 156, 3) := by decide +kernel
theorem dX7_lose_38 : decode cX7_lose 38 = .ok (.iload_n 2, 1) := by decide +kernel
theorem dX7_lose_39 : decode cX7_lose 39 = .ok (.ireturn, 1) := by decide +kernel
set_option maxRecDepth 20000 in
theorem ggX7_twice_X7_noMessage : GoodIn wsX7_twice wsX7_noMessage := goodIn_r _ [15, 2, 20, 21, 22, 23, 24, 25, 26, 27, 28, 29, 30, 31, 32, 33, 34, 35, 36, 37, 38, 39, 40, 41, 42, 43, 44, 45, 46, 47, 48, 49, 50, 51, 52, 53, 54, 55, 56, 57, 58] (by decide +kernel) (by decide +kernel)
set_option maxRecDepth 20000 in
theorem gX7_twice_X7_noMessage : GoodIn wsX7_twice (wsV RX7 176 RX7 yX7_noMessage wsX7_noMessage) := goodIn_app (goodIn_of _ (by decide +kernel)) ggX7_twice_X7_noMessage
set_option maxRecDepth 20000 in
theorem ggX7_twice_X7_send : GoodIn wsX7_twice wsX7_send := goodIn_r _ [19, 2, 3, 4, 5, 6, 7, 8, 9, 10, 20, 21, 22, 23, 24, 25, 26, 27, 28, 29, 30, 31, 32, 33, 34, 35, 36, 37, 38, 39, 40, 41, 42, 43, 44, 45, 46, 47, 48, 49, 50, 51, 52, 53, 54, 55, 56, 57, 58] (by decide +kernel) (by decide +kernel)
set_option maxRecDepth 20000 in
theorem gX7_twice_X7_send : GoodIn wsX7_twice (wsV RX7 137 RX7 yX7_send wsX7_send) := goodIn_app (goodIn_of _ (by decide +kernel)) ggX7_twice_X7_send
theorem dX7_twice_0 : decode cX7_twice 0 = .ok (.aload_n 0, 1) := by decide +kernel
theorem dX7_twice_1 : decode cX7_twice 1 = .ok (.aload_n 0, 1) := by decide +kernel
theorem dX7_twice_2 : decode cX7_twice 2 = .ok (.iload_n 1, 1) := by decide +kernel
theorem dX7_twice_3 : decode cX7_twice 3 = .ok (.invokevirtual 176, 3) := by decide +kernel
theorem dX7_twice_6 : decode cX7_twice 6 = .ok (.ifCond .eq 7, 3) := by decide +kernel
theorem dX7_twice_9 : decode cX7_twice 9 = .ok (.iconst 1, 1) := by decide +kernel
theorem dX7_twice_10 : decode cX7_twice 10 = .ok (.goto 4, 3) := by decide +kernel
theorem dX7_twice_13 : decode cX7_twice 13 = .ok (.iconst 0, 1) := by decide +kernel
theorem dX7_twice_14 : decode cX7_twice 14 = .ok (.putfield 120, 3) := by decide +kernel
theorem dX7_twice_17 : decode cX7_twice 17 = .ok (.aload_n 0, 1) := by decide +kernel
theorem dX7_twice_18 : decode cX7_twice 18 = .ok (.getfield 120, 3) := by decide +kernel
theorem dX7_twice_21 : decode cX7_twice 21 = .ok (.ifCond .le 5, 3) := by decide +kernel
theorem dX7_twice_24 : decode cX7_twice 24 = .ok (.iconst 0, 1) := by decide +kernel
theorem dX7_twice_25 : decode cX7_twice 25 = .ok (.ireturn, 1) := by decide +kernel
theorem dX7_twice_26 : decode cX7_twice 26 = .ok (.aload_n 0, 1) := by decide +kernel
theorem dX7_twice_27 : decode cX7_twice 27 = .ok (.getfield 124, 3) := by decide +kernel
theorem dX7_twice_30 : decode cX7_twice 30 = .ok (.sipush 300, 3) := by decide +kernel
theorem dX7_twice_33 : decode cX7_twice 33 = .ok (.if_icmp .ne 5, 3) := by decide +kernel
theorem dX7_twice_36 : decode cX7_twice 36 = .ok (.iconst (-1), 1) := by decide +kernel
theorem dX7_twice_37 : decode cX7_twice 37 = .ok (.ireturn, 1) := by decide +kernel
theorem dX7_twice_38 : decode cX7_twice 38 = .ok (.aload_n 0, 1) := by decide +kernel
theorem dX7_twice_39 : decode cX7_twice 39 = .ok (.aload_n 0, 1) := by decide +kernel
theorem dX7_twice_40 : decode cX7_twice 40 = .ok (.getfield 7, 3) := by decide +kernel
theorem dX7_twice_43 : decode cX7_twice 43 = .ok (.iload_n 1, 1) := by decide +kernel
theorem dX7_twice_44 : decode cX7_twice 44 = .ok (.iaload, 1) := by decide +kernel
theorem dX7_twice_45 : decode cX7_twice 45 = .ok (.aload_n 0, 1) := by decide +kernel
theorem dX7_twice_46 : decode cX7_twice 46 = .ok (.getfield 13, 3) := by decide +kernel
theorem dX7_twice_49 : decode cX7_twice 49 = .ok (.iload_n 1, 1) := by decide +kernel
theorem dX7_twice_50 : decode cX7_twice 50 = .ok (.iaload, 1) := by decide +kernel
theorem dX7_twice_51 : decode cX7_twice 51 = .ok (.aload_n 0, 1) := by decide +kernel
theorem dX7_twice_52 : decode cX7_twice 52 = .ok (.getfield 16, 3) := by decide +kernel
theorem dX7_twice_55 : decode cX7_twice 55 = .ok (.iload_n 1, 1) := by decide +kernel
theorem dX7_twice_56 : decode cX7_twice 56 = .ok (.iaload, 1) := by decide +kernel
theorem dX7_twice_57 : decode cX7_twice 57 = .ok (.aload_n 0, 1) := by decide +kernel
theorem dX7_twice_58 : decode cX7_twice 58 = .ok (.getfield 19, 3) := by decide +kernel
theorem dX7_twice_61 : decode cX7_twice 61 = .ok (.iload_n 1, 1) := by decide +kernel
theorem dX7_twice_62 : decode cX7_twice 62 = .ok (.iaload, 1) := by decide +kernel
theorem dX7_twice_63 : decode cX7_twice 63 = .ok (.aload_n 0, 1) := by decide +kernel
theorem dX7_twice_64 : decode cX7_twice 64 = .ok (.getfield 22, 3) := by decide +kernel
theorem dX7_twice_67 : decode cX7_twice 67 = .ok (.iload_n 1, 1) := by decide +kernel
theorem dX7_twice_68 : decode cX7_twice 68 = .ok (.iaload, 1) := by decide +kernel
theorem dX7_twice_69 : decode cX7_twice 69 = .ok (.aload_n 0, 1) := by decide +kernel
theorem dX7_twice_70 : decode cX7_twice 70 = .ok (.getfield 25, 3) := by decide +kernel
theorem dX7_twice_73 : decode cX7_twice 73 = .ok (.iload_n 1, 1) := by decide +kernel
theorem dX7_twice_74 : decode cX7_twice 74 = .ok (.baload, 1) := by decide +kernel
theorem dX7_twice_75 : decode cX7_twice 75 = .ok (.aload_n 0, 1) := by decide +kernel
theorem dX7_twice_76 : decode cX7_twice 76 = .ok (.getfield 29, 3) := by decide +kernel
theorem dX7_twice_79 : decode cX7_twice 79 = .ok (.iload_n 1, 1) := by decide +kernel
theorem dX7_twice_80 : decode cX7_twice 80 = .ok (.iaload, 1) := by decide +kernel
theorem dX7_twice_81 : decode cX7_twice 81 = .ok (.aload_n 0, 1) := by decide +kernel
theorem dX7_twice_82 : decode cX7_twice 82 = .ok (.getfield 32, 3) := by decide +kernel
theorem dX7_twice_85 : decode cX7_twice 85 = .ok (.iload_n 1, 1) := by decide +kernel
theorem dX7_twice_86 : decode cX7_twice 86 = .ok (.laload, 1) := by decide +kernel
theorem dX7_twice_87 : decode cX7_twice 87 = .ok (.invokevirtual 137, 3) := by decide +kernel
theorem dX7_twice_90 : decode cX7_twice 90 = .ok (.aload_n 0, 1) := by decide +kernel
theorem dX7_twice_91 : decode cX7_twice 91 = .ok (.getfield 124, 3) := by decide +kernel
theorem dX7_twice_94 : decode cX7_twice 94 = .ok (.ireturn, 1) := by decide +kernel
set_option maxRecDepth 20000 in
theorem ggX7_down_X7_noKeeper : GoodIn wsX7_down wsX7_noKeeper := goodIn_r _ [6] (by decide +kernel) (by decide +kernel)
set_option maxRecDepth 20000 in
theorem gX7_down_X7_noKeeper : GoodIn wsX7_down (va_wsS RX7 182 yX7_noKeeper wsX7_noKeeper) := goodIn_app (goodIn_of _ (by decide +kernel)) ggX7_down_X7_noKeeper
theorem dX7_down_0 : decode cX7_down 0 = .ok (.aload_n 0, 1) := by decide +kernel
theorem dX7_down_1 : decode cX7_down 1 = .ok (.iload_n 1, 1) := by decide +kernel
theorem dX7_down_2 : decode cX7_down 2 = .ok (.invokestatic 182, 3) := by decide +kernel
theorem dX7_down_5 : decode cX7_down 5 = .ok (.ifCond .eq 7, 3) := by decide +kernel
theorem dX7_down_8 : decode cX7_down 8 = .ok (.iconst 1, 1) := by decide +kernel
theorem dX7_down_9 : decode cX7_down 9 = .ok (.goto 4, 3) := by decide +kernel
theorem dX7_down_12 : decode cX7_down 12 = .ok (.iconst 0, 1) := by decide +kernel
theorem dX7_down_13 : decode cX7_down 13 = .ok (.putfield 120, 3) := by decide +kernel
theorem dX7_down_16 : decode cX7_down 16 = .ok (.aload_n 0, 1) := by decide +kernel
theorem dX7_down_17 : decode cX7_down 17 = .ok (.getfield 120, 3) := by decide +kernel
theorem dX7_down_20 : decode cX7_down 20 = .ok (.ifCond .le 5, 3) := by decide +kernel
theorem dX7_down_23 : decode cX7_down 23 = .ok (.iconst 0, 1) := by decide +kernel
theorem dX7_down_24 : decode cX7_down 24 = .ok (.ireturn, 1) := by decide +kernel
theorem dX7_down_25 : decode cX7_down 25 = .ok (.aload_n 0, 1) := by decide +kernel
theorem dX7_down_26 : decode cX7_down 26 = .ok (.getfield 36, 3) := by decide +kernel
theorem dX7_down_29 : decode cX7_down 29 = .ok (.iload_n 1, 1) := by decide +kernel
theorem dX7_down_30 : decode cX7_down 30 = .ok (.baload, 1) := by decide +kernel
theorem dX7_down_31 : decode cX7_down 31 = .ok (.istore_n 3, 1) := by decide +kernel
theorem dX7_down_32 : decode cX7_down 32 = .ok (.aload_n 0, 1) := by decide +kernel
theorem dX7_down_33 : decode cX7_down 33 = .ok (.getfield 36, 3) := by decide +kernel
theorem dX7_down_36 : decode cX7_down 36 = .ok (.iload_n 1, 1) := by decide +kernel
theorem dX7_down_37 : decode cX7_down 37 = .ok (.iload_n 2, 1) := by decide +kernel
theorem dX7_down_38 : decode cX7_down 38 = .ok (.bastore, 1) := by decide +kernel
theorem dX7_down_39 : decode cX7_down 39 = .ok (.iload_n 3, 1) := by decide +kernel
theorem dX7_down_40 : decode cX7_down 40 = .ok (.ireturn, 1) := by decide +kernel
set_option maxRecDepth 20000 in
theorem ggX7_copy_X7_noKeeper : GoodIn wsX7_copy wsX7_noKeeper := goodIn_r _ [10] (by decide +kernel) (by decide +kernel)
set_option maxRecDepth 20000 in
theorem gX7_copy_X7_noKeeper : GoodIn wsX7_copy (va_wsS RX7 182 yX7_noKeeper wsX7_noKeeper) := goodIn_app (goodIn_of _ (by decide +kernel)) ggX7_copy_X7_noKeeper
theorem dX7_copy_0 : decode cX7_copy 0 = .ok (.aload_n 0, 1) := by decide +kernel
theorem dX7_copy_1 : decode cX7_copy 1 = .ok (.iload_n 1, 1) := by decide +kernel
theorem dX7_copy_2 : decode cX7_copy 2 = .ok (.invokestatic 182, 3) := by decide +kernel
theorem dX7_copy_5 : decode cX7_copy 5 = .ok (.ifCond .ne 10, 3) := by decide +kernel
theorem dX7_copy_8 : decode cX7_copy 8 = .ok (.iload_n 2, 1) := by decide +kernel
theorem dX7_copy_9 : decode cX7_copy 9 = .ok (.invokestatic 182, 3) := by decide +kernel
theorem dX7_copy_12 : decode cX7_copy 12 = .ok (.ifCond .eq 7, 3) := by decide +kernel
theorem dX7_copy_15 : decode cX7_copy 15 = .ok (.iconst 1, 1) := by decide +kernel
theorem dX7_copy_16 : decode cX7_copy 16 = .ok (.goto 4, 3) := by decide +kernel
theorem dX7_copy_19 : decode cX7_copy 19 = .ok (.iconst 0, 1) := by decide +kernel
theorem dX7_copy_20 : decode cX7_copy 20 = .ok (.putfield 120, 3) := by decide +kernel
theorem dX7_copy_23 : decode cX7_copy 23 = .ok (.iconst 0, 1) := by decide +kernel
theorem dX7_copy_24 : decode cX7_copy 24 = .ok (.istore_n 3, 1) := by decide +kernel
theorem dX7_copy_25 : decode cX7_copy 25 = .ok (.iconst 0, 1) := by decide +kernel
theorem dX7_copy_26 : decode cX7_copy 26 = .ok (.istore 4, 2) := by decide +kernel
theorem dX7_copy_28 : decode cX7_copy 28 = .ok (.iload 4, 2) := by decide +kernel
theorem dX7_copy_30 : decode cX7_copy 30 = .ok (.iconst 4, 1) := by decide +kernel
theorem dX7_copy_31 : decode cX7_copy 31 = .ok (.if_icmp .ge 149, 3) := by decide +kernel
theorem dX7_copy_34 : decode cX7_copy 34 = .ok (.aload_n 0, 1) := by decide +kernel
theorem dX7_copy_35 : decode cX7_copy 35 = .ok (.getfield 120, 3) := by decide +kernel
theorem dX7_copy_38 : decode cX7_copy 38 = .ok (.ifCond .ne 142, 3) := by decide +kernel
theorem dX7_copy_41 : decode cX7_copy 41 = .ok (.iconst 4, 1) := by decide +kernel
theorem dX7_copy_42 : decode cX7_copy 42 = .ok (.iload_n 1, 1) := by decide +kernel
theorem dX7_copy_43 : decode cX7_copy 43 = .ok (.imul, 1) := by decide +kernel
theorem dX7_copy_44 : decode cX7_copy 44 = .ok (.iload 4, 2) := by decide +kernel
theorem dX7_copy_46 : decode cX7_copy 46 = .ok (.iadd, 1) := by decide +kernel
theorem dX7_copy_47 : decode cX7_copy 47 = .ok (.istore 5, 2) := by decide +kernel
theorem dX7_copy_49 : decode cX7_copy 49 = .ok (.iconst 4, 1) := by decide +kernel
theorem dX7_copy_50 : decode cX7_copy 50 = .ok (.iload_n 2, 1) := by decide +kernel
theorem dX7_copy_51 : decode cX7_copy 51 = .ok (.imul, 1) := by decide +kernel
theorem dX7_copy_52 : decode cX7_copy 52 = .ok (.iload 4, 2) := by decide +kernel
theorem dX7_copy_54 : decode cX7_copy 54 = .ok (.iadd, 1) := by decide +kernel
theorem dX7_copy_55 : decode cX7_copy 55 = .ok (.istore 6, 2) := by decide +kernel
theorem dX7_copy_57 : decode cX7_copy 57 = .ok (.aload_n 0, 1) := by decide +kernel
theorem dX7_copy_58 : decode cX7_copy 58 = .ok (.getfield 42, 3) := by decide +kernel
theorem dX7_copy_61 : decode cX7_copy 61 = .ok (.iload 6, 2) := by decide +kernel
theorem dX7_copy_63 : decode cX7_copy 63 = .ok (.iaload, 1) := by decide +kernel
theorem dX7_copy_64 : decode cX7_copy 64 = .ok (.aload_n 0, 1) := by decide +kernel
theorem dX7_copy_65 : decode cX7_copy 65 = .ok (.getfield 42, 3) := by decide +kernel
theorem dX7_copy_68 : decode cX7_copy 68 = .ok (.iload 5, 2) := by decide +kernel
theorem dX7_copy_70 : decode cX7_copy 70 = .ok (.iaload, 1) := by decide +kernel
theorem dX7_copy_71 : decode cX7_copy 71 = .ok (.if_icmp .le 103, 3) := by decide +kernel
theorem dX7_copy_74 : decode cX7_copy 74 = .ok (.aload_n 0, 1) := by decide +kernel
theorem dX7_copy_75 : decode cX7_copy 75 = .ok (.getfield 39, 3) := by decide +kernel
theorem dX7_copy_78 : decode cX7_copy 78 = .ok (.iload 5, 2) := by decide +kernel
theorem dX7_copy_80 : decode cX7_copy 80 = .ok (.aload_n 0, 1) := by decide +kernel
theorem dX7_copy_81 : decode cX7_copy 81 = .ok (.getfield 39, 3) := by decide +kernel
theorem dX7_copy_84 : decode cX7_copy 84 = .ok (.iload 6, 2) := by decide +kernel
theorem dX7_copy_86 : decode cX7_copy 86 = .ok (.iaload, 1) := by decide +kernel
theorem dX7_copy_87 : decode cX7_copy 87 = .ok (.aload_n 0, 1) := by decide +kernel
theorem dX7_copy_88 : decode cX7_copy 88 = .ok (.getfield 39, 3) := by decide +kernel
theorem dX7_copy_91 : decode cX7_copy 91 = .ok (.iload 5, 2) := by decide +kernel
theorem dX7_copy_93 : decode cX7_copy 93 = .ok (.iaload, 1) := by decide +kernel
theorem dX7_copy_94 : decode cX7_copy 94 = .ok (.if_icmp .le 13, 3) := by decide +kernel
theorem dX7_copy_97 : decode cX7_copy 97 = .ok (.aload_n 0, 1) := by decide +kernel
theorem dX7_copy_98 : decode cX7_copy 98 = .ok (.getfield 39, 3) := by decide +kernel
theorem dX7_copy_101 : decode cX7_copy 101 = .ok (.iload 6, 2) := by decide +kernel
theorem dX7_copy_103 : decode cX7_copy 103 = .ok (.iaload, 1) := by decide +kernel
theorem dX7_copy_104 : decode cX7_copy 104 = .ok (.goto 10, 3) := by decide +kernel
theorem dX7_copy_107 : decode cX7_copy 107 = .ok (.aload_n 0, 1) := by decide +kernel
theorem dX7_copy_108 : decode cX7_copy 108 = .ok (.getfield 39, 3) := by decide +kernel
theorem dX7_copy_111 : decode cX7_copy 111 = .ok (.iload 5, 2) := by decide +kernel
theorem dX7_copy_113 : decode cX7_copy 113 = .ok (.iaload, 1) := by decide +kernel
theorem dX7_copy_114 : decode cX7_copy 114 = .ok (.iastore, 1) := by decide +kernel
theorem dX7_copy_115 : decode cX7_copy 115 = .ok (.aload_n 0, 1) := by decide +kernel
theorem dX7_copy_116 : decode cX7_copy 116 = .ok (.getfield 42, 3) := by decide +kernel
theorem dX7_copy_119 : decode cX7_copy 119 = .ok (.iload 5, 2) := by decide +kernel
theorem dX7_copy_121 : decode cX7_copy 121 = .ok (.aload_n 0, 1) := by decide +kernel
theorem dX7_copy_122 : decode cX7_copy 122 = .ok (.getfield 42, 3) := by decide +kernel
theorem dX7_copy_125 : decode cX7_copy 125 = .ok (.iload 6, 2) := by decide +kernel
theorem dX7_copy_127 : decode cX7_copy 127 = .ok (.iaload, 1) := by decide +kernel
theorem dX7_copy_128 : decode cX7_copy 128 = .ok (.iastore, 1) := by decide +kernel
theorem dX7_copy_129 : decode cX7_copy 129 = .ok (.aload_n 0, 1) := by decide +kernel
theorem dX7_copy_130 : decode cX7_copy 130 = .ok (.getfield 45, 3) := by decide +kernel
theorem dX7_copy_133 : decode cX7_copy 133 = .ok (.iload 5, 2) := by decide +kernel
theorem dX7_copy_135 : decode cX7_copy 135 = .ok (.aload_n 0, 1) := by decide +kernel
theorem dX7_copy_136 : decode cX7_copy 136 = .ok (.getfield 45, 3) := by decide +kernel
theorem dX7_copy_139 : decode cX7_copy 139 = .ok (.iload 6, 2) := by decide +kernel
theorem dX7_copy_141 : decode cX7_copy 141 = .ok (.baload, 1) := by decide +kernel
theorem dX7_copy_142 : decode cX7_copy 142 = .ok (.bastore, 1) := by decide +kernel
theorem dX7_copy_143 : decode cX7_copy 143 = .ok (.aload_n 0, 1) := by decide +kernel
theorem dX7_copy_144 : decode cX7_copy 144 = .ok (.getfield 48, 3) := by decide +kernel
theorem dX7_copy_147 : decode cX7_copy 147 = .ok (.iload 5, 2) := by decide +kernel
theorem dX7_copy_149 : decode cX7_copy 149 = .ok (.aload_n 0, 1) := by decide +kernel
theorem dX7_copy_150 : decode cX7_copy 150 = .ok (.getfield 48, 3) := by decide +kernel
theorem dX7_copy_153 : decode cX7_copy 153 = .ok (.iload 6, 2) := by decide +kernel
theorem dX7_copy_155 : decode cX7_copy 155 = .ok (.iaload, 1) := by decide +kernel
theorem dX7_copy_156 : decode cX7_copy 156 = .ok (.iastore, 1) := by decide +kernel
theorem dX7_copy_157 : decode cX7_copy 157 = .ok (.aload_n 0, 1) := by decide +kernel
theorem dX7_copy_158 : decode cX7_copy 158 = .ok (.getfield 51, 3) := by decide +kernel
theorem dX7_copy_161 : decode cX7_copy 161 = .ok (.iload 5, 2) := by decide +kernel
theorem dX7_copy_163 : decode cX7_copy 163 = .ok (.aload_n 0, 1) := by decide +kernel
theorem dX7_copy_164 : decode cX7_copy 164 = .ok (.getfield 51, 3) := by decide +kernel
theorem dX7_copy_167 : decode cX7_copy 167 = .ok (.iload 6, 2) := by decide +kernel
theorem dX7_copy_169 : decode cX7_copy 169 = .ok (.laload, 1) := by decide +kernel
theorem dX7_copy_170 : decode cX7_copy 170 = .ok (.lastore, 1) := by decide +kernel
theorem dX7_copy_171 : decode cX7_copy 171 = .ok (.iinc 3 1, 3) := by decide +kernel
theorem dX7_copy_174 : decode cX7_copy 174 = .ok (.iinc 4 1, 3) := by decide +kernel
theorem dX7_copy_177 : decode cX7_copy 177 = .ok (.goto (-149), 3) := by decide +kernel
theorem dX7_copy_180 : decode cX7_copy 180 = .ok (.iload_n 3, 1) := by decide +kernel
theorem dX7_copy_181 : decode cX7_copy 181 = .ok (.ireturn, 1) := by decide +kernel
theorem dX7_messages_0 : decode cX7_messages 0 = .ok (.aload_n 0, 1) := by decide +kernel
theorem dX7_messages_1 : decode cX7_messages 1 = .ok (.iconst 0, 1) := by decide +kernel
theorem dX7_messages_2 : decode cX7_messages 2 = .ok (.putfield 120, 3) := by decide +kernel
theorem dX7_messages_5 : decode cX7_messages 5 = .ok (.aload_n 0, 1) := by decide +kernel
theorem dX7_messages_6 : decode cX7_messages 6 = .ok (.getfield 124, 3) := by decide +kernel
theorem dX7_messages_9 : decode cX7_messages 9 = .ok (.ireturn, 1) := by decide +kernel
set_option maxRecDepth 20000 in
theorem ggX7_message_X7_noMessage : GoodIn wsX7_message wsX7_noMessage := goodIn_r _ [13, 14, 15, 16, 17, 18, 19, 20, 21, 22, 23, 24, 25, 26, 27, 28, 29, 30, 31, 32, 33, 34, 35, 36, 37, 38, 39, 40, 41, 42, 43, 44, 45, 46, 47, 48, 49, 50, 51, 52, 53] (by decide +kernel) (by decide +kernel)
set_option maxRecDepth 20000 in
theorem gX7_message_X7_noMessage : GoodIn wsX7_message (wsV RX7 176 RX7 yX7_noMessage wsX7_noMessage) := goodIn_app (goodIn_of _ (by decide +kernel)) ggX7_message_X7_noMessage
theorem dX7_message_0 : decode cX7_message 0 = .ok (.aload_n 0, 1) := by decide +kernel
theorem dX7_message_1 : decode cX7_message 1 = .ok (.aload_n 0, 1) := by decide +kernel
theorem dX7_message_2 : decode cX7_message 2 = .ok (.iload_n 1, 1) := by decide +kernel
theorem dX7_message_3 : decode cX7_message 3 = .ok (.invokevirtual 176, 3) := by decide +kernel
theorem dX7_message_6 : decode cX7_message 6 = .ok (.ifCond .ne 12, 3) := by decide +kernel
theorem dX7_message_9 : decode cX7_message 9 = .ok (.iload_n 2, 1) := by decide +kernel
theorem dX7_message_10 : decode cX7_message 10 = .ok (.ifCond .lt 8, 3) := by decide +kernel
theorem dX7_message_13 : decode cX7_message 13 = .ok (.iload_n 2, 1) := by decide +kernel
theorem dX7_message_14 : decode cX7_message 14 = .ok (.iconst 5, 1) := by decide +kernel
theorem dX7_message_15 : decode cX7_message 15 = .ok (.if_icmp .le 7, 3) := by decide +kernel
theorem dX7_message_18 : decode cX7_message 18 = .ok (.iconst 1, 1) := by decide +kernel
theorem dX7_message_19 : decode cX7_message 19 = .ok (.goto 4, 3) := by decide +kernel
theorem dX7_message_22 : decode cX7_message 22 = .ok (.iconst 0, 1) := by decide +kernel
theorem dX7_message_23 : decode cX7_message 23 = .ok (.putfield 120, 3) := by decide +kernel
theorem dX7_message_26 : decode cX7_message 26 = .ok (.aload_n 0, 1) := by decide +kernel
theorem dX7_message_27 : decode cX7_message 27 = .ok (.getfield 120, 3) := by decide +kernel
theorem dX7_message_30 : decode cX7_message 30 = .ok (.ifCond .le 5, 3) := by decide +kernel
theorem dX7_message_33 : decode cX7_message 33 = .ok (.iconst 0, 1) := by decide +kernel
theorem dX7_message_34 : decode cX7_message 34 = .ok (.ireturn, 1) := by decide +kernel
theorem dX7_message_35 : decode cX7_message 35 = .ok (.iload_n 2, 1) := by decide +kernel
theorem dX7_message_36 : decode cX7_message 36 = .ok (.tableswitch 71 0 4 #[36, 43, 50, 57, 64], 36) := by decide +kernel
theorem dX7_message_72 : decode cX7_message 72 = .ok (.aload_n 0, 1) := by decide +kernel
theorem dX7_message_73 : decode cX7_message 73 = .ok (.getfield 7, 3) := by decide +kernel
theorem dX7_message_76 : decode cX7_message 76 = .ok (.iload_n 1, 1) := by decide +kernel
theorem dX7_message_77 : decode cX7_message 77 = .ok (.iaload, 1) := by decide +kernel
theorem dX7_message_78 : decode cX7_message 78 = .ok (.ireturn, 1) := by decide +kernel
theorem dX7_message_79 : decode cX7_message 79 = .ok (.aload_n 0, 1) := by decide +kernel
theorem dX7_message_80 : decode cX7_message 80 = .ok (.getfield 13, 3) := by decide +kernel
theorem dX7_message_83 : decode cX7_message 83 = .ok (.iload_n 1, 1) := by decide +kernel
theorem dX7_message_84 : decode cX7_message 84 = .ok (.iaload, 1) := by decide +kernel
theorem dX7_message_85 : decode cX7_message 85 = .ok (.ireturn, 1) := by decide +kernel
theorem dX7_message_86 : decode cX7_message 86 = .ok (.aload_n 0, 1) := by decide +kernel
theorem dX7_message_87 : decode cX7_message 87 = .ok (.getfield 16, 3) := by decide +kernel
theorem dX7_message_90 : decode cX7_message 90 = .ok (.iload_n 1, 1) := by decide +kernel
theorem dX7_message_91 : decode cX7_message 91 = .ok (.iaload, 1) := by decide +kernel
theorem dX7_message_92 : decode cX7_message 92 = .ok (.ireturn, 1) := by decide +kernel
theorem dX7_message_93 : decode cX7_message 93 = .ok (.aload_n 0, 1) := by decide +kernel
theorem dX7_message_94 : decode cX7_message 94 = .ok (.getfield 19, 3) := by decide +kernel
theorem dX7_message_97 : decode cX7_message 97 = .ok (.iload_n 1, 1) := by decide +kernel
theorem dX7_message_98 : decode cX7_message 98 = .ok (.iaload, 1) := by decide +kernel
theorem dX7_message_99 : decode cX7_message 99 = .ok (.ireturn, 1) := by decide +kernel
theorem dX7_message_100 : decode cX7_message 100 = .ok (.aload_n 0, 1) := by decide +kernel
theorem dX7_message_101 : decode cX7_message 101 = .ok (.getfield 22, 3) := by decide +kernel
theorem dX7_message_104 : decode cX7_message 104 = .ok (.iload_n 1, 1) := by decide +kernel
theorem dX7_message_105 : decode cX7_message 105 = .ok (.iaload, 1) := by decide +kernel
theorem dX7_message_106 : decode cX7_message 106 = .ok (.ireturn, 1) := by decide +kernel
theorem dX7_message_107 : decode cX7_message 107 = .ok (.aload_n 0, 1) := by decide +kernel
theorem dX7_message_108 : decode cX7_message 108 = .ok (.getfield 25, 3) := by decide +kernel
theorem dX7_message_111 : decode cX7_message 111 = .ok (.iload_n 1, 1) := by decide +kernel
theorem dX7_message_112 : decode cX7_message 112 = .ok (.baload, 1) := by decide +kernel
theorem dX7_message_113 : decode cX7_message 113 = .ok (.ifCond .eq 12, 3) := by decide +kernel
theorem dX7_message_116 : decode cX7_message 116 = .ok (.aload_n 0, 1) := by decide +kernel
theorem dX7_message_117 : decode cX7_message 117 = .ok (.getfield 29, 3) := by decide +kernel
theorem dX7_message_120 : decode cX7_message 120 = .ok (.iload_n 1, 1) := by decide +kernel
theorem dX7_message_121 : decode cX7_message 121 = .ok (.iaload, 1) := by decide +kernel
theorem dX7_message_122 : decode cX7_message 122 = .ok (.goto 4, 3) := by decide +kernel
theorem dX7_message_125 : decode cX7_message 125 = .ok (.iconst (-1), 1) := by decide +kernel
theorem dX7_message_126 : decode cX7_message 126 = .ok (.ireturn, 1) := by decide +kernel
set_option maxRecDepth 20000 in
theorem ggX7_keeper_X7_noKeeper : GoodIn wsX7_keeper wsX7_noKeeper := goodIn_r _ [9] (by decide +kernel) (by decide +kernel)
set_option maxRecDepth 20000 in
theorem gX7_keeper_X7_noKeeper : GoodIn wsX7_keeper (va_wsS RX7 182 yX7_noKeeper wsX7_noKeeper) := goodIn_app (goodIn_of _ (by decide +kernel)) ggX7_keeper_X7_noKeeper
set_option maxRecDepth 20000 in
theorem ggX7_keeper_X7_noKey : GoodIn wsX7_keeper wsX7_noKey := goodIn_r _ [12] (by decide +kernel) (by decide +kernel)
set_option maxRecDepth 20000 in
theorem gX7_keeper_X7_noKey : GoodIn wsX7_keeper (va_wsS RX7 131 yX7_noKey wsX7_noKey) := goodIn_app (goodIn_of _ (by decide +kernel)) ggX7_keeper_X7_noKey
theorem dX7_keeper_0 : decode cX7_keeper 0 = .ok (.aload_n 0, 1) := by decide +kernel
theorem dX7_keeper_1 : decode cX7_keeper 1 = .ok (.iload_n 1, 1) := by decide +kernel
theorem dX7_keeper_2 : decode cX7_keeper 2 = .ok (.invokestatic 182, 3) := by decide +kernel
theorem dX7_keeper_5 : decode cX7_keeper 5 = .ok (.ifCond .ne 19, 3) := by decide +kernel
theorem dX7_keeper_8 : decode cX7_keeper 8 = .ok (.iload_n 2, 1) := by decide +kernel
theorem dX7_keeper_9 : decode cX7_keeper 9 = .ok (.invokestatic 131, 3) := by decide +kernel
theorem dX7_keeper_12 : decode cX7_keeper 12 = .ok (.ifCond .ne 12, 3) := by decide +kernel
theorem dX7_keeper_15 : decode cX7_keeper 15 = .ok (.iload_n 3, 1) := by decide +kernel
theorem dX7_keeper_16 : decode cX7_keeper 16 = .ok (.ifCond .lt 8, 3) := by decide +kernel
theorem dX7_keeper_19 : decode cX7_keeper 19 = .ok (.iload_n 3, 1) := by decide +kernel
theorem dX7_keeper_20 : decode cX7_keeper 20 = .ok (.iconst 2, 1) := by decide +kernel
theorem dX7_keeper_21 : decode cX7_keeper 21 = .ok (.if_icmp .le 7, 3) := by decide +kernel
theorem dX7_keeper_24 : decode cX7_keeper 24 = .ok (.iconst 1, 1) := by decide +kernel
theorem dX7_keeper_25 : decode cX7_keeper 25 = .ok (.goto 4, 3) := by decide +kernel
theorem dX7_keeper_28 : decode cX7_keeper 28 = .ok (.iconst 0, 1) := by decide +kernel
theorem dX7_keeper_29 : decode cX7_keeper 29 = .ok (.putfield 120, 3) := by decide +kernel
theorem dX7_keeper_32 : decode cX7_keeper 32 = .ok (.aload_n 0, 1) := by decide +kernel
theorem dX7_keeper_33 : decode cX7_keeper 33 = .ok (.getfield 120, 3) := by decide +kernel
theorem dX7_keeper_36 : decode cX7_keeper 36 = .ok (.ifCond .le 5, 3) := by decide +kernel
theorem dX7_keeper_39 : decode cX7_keeper 39 = .ok (.iconst 0, 1) := by decide +kernel
theorem dX7_keeper_40 : decode cX7_keeper 40 = .ok (.ireturn, 1) := by decide +kernel
theorem dX7_keeper_41 : decode cX7_keeper 41 = .ok (.iconst 4, 1) := by decide +kernel
theorem dX7_keeper_42 : decode cX7_keeper 42 = .ok (.iload_n 1, 1) := by decide +kernel
theorem dX7_keeper_43 : decode cX7_keeper 43 = .ok (.imul, 1) := by decide +kernel
theorem dX7_keeper_44 : decode cX7_keeper 44 = .ok (.iload_n 2, 1) := by decide +kernel
theorem dX7_keeper_45 : decode cX7_keeper 45 = .ok (.iadd, 1) := by decide +kernel
theorem dX7_keeper_46 : decode cX7_keeper 46 = .ok (.istore 4, 2) := by decide +kernel
theorem dX7_keeper_48 : decode cX7_keeper 48 = .ok (.iload_n 3, 1) := by decide +kernel
theorem dX7_keeper_49 : decode cX7_keeper 49 = .ok (.ifCond .ne 13, 3) := by decide +kernel
theorem dX7_keeper_52 : decode cX7_keeper 52 = .ok (.aload_n 0, 1) := by decide +kernel
theorem dX7_keeper_53 : decode cX7_keeper 53 = .ok (.getfield 39, 3) := by decide +kernel
theorem dX7_keeper_56 : decode cX7_keeper 56 = .ok (.iload 4, 2) := by decide +kernel
theorem dX7_keeper_58 : decode cX7_keeper 58 = .ok (.iaload, 1) := by decide +kernel
theorem dX7_keeper_59 : decode cX7_keeper 59 = .ok (.goto 39, 3) := by decide +kernel
theorem dX7_keeper_62 : decode cX7_keeper 62 = .ok (.iload_n 3, 1) := by decide +kernel
theorem dX7_keeper_63 : decode cX7_keeper 63 = .ok (.iconst 1, 1) := by decide +kernel
theorem dX7_keeper_64 : decode cX7_keeper 64 = .ok (.if_icmp .ne 13, 3) := by decide +kernel
theorem dX7_keeper_67 : decode cX7_keeper 67 = .ok (.aload_n 0, 1) := by decide +kernel
theorem dX7_keeper_68 : decode cX7_keeper 68 = .ok (.getfield 42, 3) := by decide +kernel
theorem dX7_keeper_71 : decode cX7_keeper 71 = .ok (.iload 4, 2) := by decide +kernel
theorem dX7_keeper_73 : decode cX7_keeper 73 = .ok (.iaload, 1) := by decide +kernel
theorem dX7_keeper_74 : decode cX7_keeper 74 = .ok (.goto 24, 3) := by decide +kernel
theorem dX7_keeper_77 : decode cX7_keeper 77 = .ok (.aload_n 0, 1) := by decide +kernel
theorem dX7_keeper_78 : decode cX7_keeper 78 = .ok (.getfield 45, 3) := by decide +kernel
theorem dX7_keeper_81 : decode cX7_keeper 81 = .ok (.iload 4, 2) := by decide +kernel
theorem dX7_keeper_83 : decode cX7_keeper 83 = .ok (.baload, 1) := by decide +kernel
theorem dX7_keeper_84 : decode cX7_keeper 84 = .ok (.ifCond .eq 13, 3) := by decide +kernel
theorem dX7_keeper_87 : decode cX7_keeper 87 = .ok (.aload_n 0, 1) := by decide +kernel
theorem dX7_keeper_88 : decode cX7_keeper 88 = .ok (.getfield 48, 3) := by decide +kernel
theorem dX7_keeper_91 : decode cX7_keeper 91 = .ok (.iload 4, 2) := by decide +kernel
theorem dX7_keeper_93 : decode cX7_keeper 93 = .ok (.iaload, 1) := by decide +kernel
theorem dX7_keeper_94 : decode cX7_keeper 94 = .ok (.goto 4, 3) := by decide +kernel
theorem dX7_keeper_97 : decode cX7_keeper 97 = .ok (.iconst (-1), 1) := by decide +kernel
theorem dX7_keeper_98 : decode cX7_keeper 98 = .ok (.ireturn, 1) := by decide +kernel
set_option maxRecDepth 20000 in
theorem ggX7_kept_X7_noKeeper : GoodIn wsX7_kept wsX7_noKeeper := goodIn_r _ [7] (by decide +kernel) (by decide +kernel)
set_option maxRecDepth 20000 in
theorem gX7_kept_X7_noKeeper : GoodIn wsX7_kept (va_wsS RX7 182 yX7_noKeeper wsX7_noKeeper) := goodIn_app (goodIn_of _ (by decide +kernel)) ggX7_kept_X7_noKeeper
set_option maxRecDepth 20000 in
theorem ggX7_kept_X7_noKey : GoodIn wsX7_kept wsX7_noKey := goodIn_r _ [10] (by decide +kernel) (by decide +kernel)
set_option maxRecDepth 20000 in
theorem gX7_kept_X7_noKey : GoodIn wsX7_kept (va_wsS RX7 131 yX7_noKey wsX7_noKey) := goodIn_app (goodIn_of _ (by decide +kernel)) ggX7_kept_X7_noKey
theorem dX7_kept_0 : decode cX7_kept 0 = .ok (.aload_n 0, 1) := by decide +kernel
theorem dX7_kept_1 : decode cX7_kept 1 = .ok (.iload_n 1, 1) := by decide +kernel
theorem dX7_kept_2 : decode cX7_kept 2 = .ok (.invokestatic 182, 3) := by decide +kernel
theorem dX7_kept_5 : decode cX7_kept 5 = .ok (.ifCond .ne 10, 3) := by decide +kernel
theorem dX7_kept_8 : decode cX7_kept 8 = .ok (.iload_n 2, 1) := by decide +kernel
theorem dX7_kept_9 : decode cX7_kept 9 = .ok (.invokestatic 131, 3) := by decide +kernel
theorem dX7_kept_12 : decode cX7_kept 12 = .ok (.ifCond .eq 7, 3) := by decide +kernel
theorem dX7_kept_15 : decode cX7_kept 15 = .ok (.iconst 1, 1) := by decide +kernel
theorem dX7_kept_16 : decode cX7_kept 16 = .ok (.goto 4, 3) := by decide +kernel
theorem dX7_kept_19 : decode cX7_kept 19 = .ok (.iconst 0, 1) := by decide +kernel
theorem dX7_kept_20 : decode cX7_kept 20 = .ok (.putfield 120, 3) := by decide +kernel
theorem dX7_kept_23 : decode cX7_kept 23 = .ok (.aload_n 0, 1) := by decide +kernel
theorem dX7_kept_24 : decode cX7_kept 24 = .ok (.getfield 120, 3) := by decide +kernel
theorem dX7_kept_27 : decode cX7_kept 27 = .ok (.ifCond .le 7, 3) := by decide +kernel
theorem dX7_kept_30 : decode cX7_kept 30 = .ok (.iconst 0, 1) := by decide +kernel
theorem dX7_kept_31 : decode cX7_kept 31 = .ok (.goto 8, 3) := by decide +kernel
theorem dX7_kept_34 : decode cX7_kept 34 = .ok (.iconst 4, 1) := by decide +kernel
theorem dX7_kept_35 : decode cX7_kept 35 = .ok (.iload_n 1, 1) := by decide +kernel
theorem dX7_kept_36 : decode cX7_kept 36 = .ok (.imul, 1) := by decide +kernel
theorem dX7_kept_37 : decode cX7_kept 37 = .ok (.iload_n 2, 1) := by decide +kernel
theorem dX7_kept_38 : decode cX7_kept 38 = .ok (.iadd, 1) := by decide +kernel
theorem dX7_kept_39 : decode cX7_kept 39 = .ok (.istore_n 3, 1) := by decide +kernel
theorem dX7_kept_40 : decode cX7_kept 40 = .ok (.aload_n 0, 1) := by decide +kernel
theorem dX7_kept_41 : decode cX7_kept 41 = .ok (.getfield 120, 3) := by decide +kernel
theorem dX7_kept_44 : decode cX7_kept 44 = .ok (.ifCond .ne 21, 3) := by decide +kernel
theorem dX7_kept_47 : decode cX7_kept 47 = .ok (.aload_n 0, 1) := by decide +kernel
theorem dX7_kept_48 : decode cX7_kept 48 = .ok (.getfield 45, 3) := by decide +kernel
theorem dX7_kept_51 : decode cX7_kept 51 = .ok (.iload_n 3, 1) := by decide +kernel
theorem dX7_kept_52 : decode cX7_kept 52 = .ok (.baload, 1) := by decide +kernel
theorem dX7_kept_53 : decode cX7_kept 53 = .ok (.ifCond .eq 12, 3) := by decide +kernel
theorem dX7_kept_56 : decode cX7_kept 56 = .ok (.aload_n 0, 1) := by decide +kernel
theorem dX7_kept_57 : decode cX7_kept 57 = .ok (.getfield 51, 3) := by decide +kernel
theorem dX7_kept_60 : decode cX7_kept 60 = .ok (.iload_n 3, 1) := by decide +kernel
theorem dX7_kept_61 : decode cX7_kept 61 = .ok (.laload, 1) := by decide +kernel
theorem dX7_kept_62 : decode cX7_kept 62 = .ok (.goto 4, 3) := by decide +kernel
theorem dX7_kept_65 : decode cX7_kept 65 = .ok (.lconst 0, 1) := by decide +kernel
theorem dX7_kept_66 : decode cX7_kept 66 = .ok (.lreturn, 1) := by decide +kernel
set_option maxRecDepth 20000 in
theorem ggX7_asker_X7_noAsker : GoodIn wsX7_asker wsX7_noAsker := goodIn_r _ [9] (by decide +kernel) (by decide +kernel)
set_option maxRecDepth 20000 in
theorem gX7_asker_X7_noAsker : GoodIn wsX7_asker (va_wsS RX7 127 yX7_noAsker wsX7_noAsker) := goodIn_app (goodIn_of _ (by decide +kernel)) ggX7_asker_X7_noAsker
set_option maxRecDepth 20000 in
theorem ggX7_asker_X7_bits : GoodIn wsX7_asker wsX7_bits := goodIn_r _ [12] (by decide +kernel) (by decide +kernel)
set_option maxRecDepth 20000 in
theorem gX7_asker_X7_bits : GoodIn wsX7_asker (va_wsS RX7 145 yX7_bits wsX7_bits) := goodIn_app (goodIn_of _ (by decide +kernel)) ggX7_asker_X7_bits
theorem dX7_asker_0 : decode cX7_asker 0 = .ok (.aload_n 0, 1) := by decide +kernel
theorem dX7_asker_1 : decode cX7_asker 1 = .ok (.iload_n 1, 1) := by decide +kernel
theorem dX7_asker_2 : decode cX7_asker 2 = .ok (.invokestatic 127, 3) := by decide +kernel
theorem dX7_asker_5 : decode cX7_asker 5 = .ok (.ifCond .ne 12, 3) := by decide +kernel
theorem dX7_asker_8 : decode cX7_asker 8 = .ok (.iload_n 2, 1) := by decide +kernel
theorem dX7_asker_9 : decode cX7_asker 9 = .ok (.ifCond .lt 8, 3) := by decide +kernel
theorem dX7_asker_12 : decode cX7_asker 12 = .ok (.iload_n 2, 1) := by decide +kernel
theorem dX7_asker_13 : decode cX7_asker 13 = .ok (.iconst 3, 1) := by decide +kernel
theorem dX7_asker_14 : decode cX7_asker 14 = .ok (.if_icmp .le 7, 3) := by decide +kernel
theorem dX7_asker_17 : decode cX7_asker 17 = .ok (.iconst 1, 1) := by decide +kernel
theorem dX7_asker_18 : decode cX7_asker 18 = .ok (.goto 4, 3) := by decide +kernel
theorem dX7_asker_21 : decode cX7_asker 21 = .ok (.iconst 0, 1) := by decide +kernel
theorem dX7_asker_22 : decode cX7_asker 22 = .ok (.putfield 120, 3) := by decide +kernel
theorem dX7_asker_25 : decode cX7_asker 25 = .ok (.aload_n 0, 1) := by decide +kernel
theorem dX7_asker_26 : decode cX7_asker 26 = .ok (.getfield 120, 3) := by decide +kernel
theorem dX7_asker_29 : decode cX7_asker 29 = .ok (.ifCond .le 5, 3) := by decide +kernel
theorem dX7_asker_32 : decode cX7_asker 32 = .ok (.iconst 0, 1) := by decide +kernel
theorem dX7_asker_33 : decode cX7_asker 33 = .ok (.ireturn, 1) := by decide +kernel
theorem dX7_asker_34 : decode cX7_asker 34 = .ok (.aload_n 0, 1) := by decide +kernel
theorem dX7_asker_35 : decode cX7_asker 35 = .ok (.getfield 69, 3) := by decide +kernel
theorem dX7_asker_38 : decode cX7_asker 38 = .ok (.iload_n 1, 1) := by decide +kernel
theorem dX7_asker_39 : decode cX7_asker 39 = .ok (.iaload, 1) := by decide +kernel
theorem dX7_asker_40 : decode cX7_asker 40 = .ok (.ifCond .lt 7, 3) := by decide +kernel
theorem dX7_asker_43 : decode cX7_asker 43 = .ok (.iconst 1, 1) := by decide +kernel
theorem dX7_asker_44 : decode cX7_asker 44 = .ok (.goto 4, 3) := by decide +kernel
theorem dX7_asker_47 : decode cX7_asker 47 = .ok (.iconst 0, 1) := by decide +kernel
theorem dX7_asker_48 : decode cX7_asker 48 = .ok (.istore_n 3, 1) := by decide +kernel
theorem dX7_asker_49 : decode cX7_asker 49 = .ok (.iload_n 2, 1) := by decide +kernel
theorem dX7_asker_50 : decode cX7_asker 50 = .ok (.ifCond .ne 12, 3) := by decide +kernel
theorem dX7_asker_53 : decode cX7_asker 53 = .ok (.aload_n 0, 1) := by decide +kernel
theorem dX7_asker_54 : decode cX7_asker 54 = .ok (.getfield 54, 3) := by decide +kernel
theorem dX7_asker_57 : decode cX7_asker 57 = .ok (.iload_n 1, 1) := by decide +kernel
theorem dX7_asker_58 : decode cX7_asker 58 = .ok (.iaload, 1) := by decide +kernel
theorem dX7_asker_59 : decode cX7_asker 59 = .ok (.goto 60, 3) := by decide +kernel
theorem dX7_asker_62 : decode cX7_asker 62 = .ok (.iload_n 2, 1) := by decide +kernel
theorem dX7_asker_63 : decode cX7_asker 63 = .ok (.iconst 1, 1) := by decide +kernel
theorem dX7_asker_64 : decode cX7_asker 64 = .ok (.if_icmp .ne 12, 3) := by decide +kernel
theorem dX7_asker_67 : decode cX7_asker 67 = .ok (.aload_n 0, 1) := by decide +kernel
theorem dX7_asker_68 : decode cX7_asker 68 = .ok (.getfield 69, 3) := by decide +kernel
theorem dX7_asker_71 : decode cX7_asker 71 = .ok (.iload_n 1, 1) := by decide +kernel
theorem dX7_asker_72 : decode cX7_asker 72 = .ok (.iaload, 1) := by decide +kernel
theorem dX7_asker_73 : decode cX7_asker 73 = .ok (.goto 46, 3) := by decide +kernel
theorem dX7_asker_76 : decode cX7_asker 76 = .ok (.iload_n 2, 1) := by decide +kernel
theorem dX7_asker_77 : decode cX7_asker 77 = .ok (.iconst 2, 1) := by decide +kernel
theorem dX7_asker_78 : decode cX7_asker 78 = .ok (.if_icmp .ne 24, 3) := by decide +kernel
theorem dX7_asker_81 : decode cX7_asker 81 = .ok (.iload_n 3, 1) := by decide +kernel
theorem dX7_asker_82 : decode cX7_asker 82 = .ok (.ifCond .eq 16, 3) := by decide +kernel
theorem dX7_asker_85 : decode cX7_asker 85 = .ok (.aload_n 0, 1) := by decide +kernel
theorem dX7_asker_86 : decode cX7_asker 86 = .ok (.getfield 72, 3) := by decide +kernel
theorem dX7_asker_89 : decode cX7_asker 89 = .ok (.iload_n 1, 1) := by decide +kernel
theorem dX7_asker_90 : decode cX7_asker 90 = .ok (.baload, 1) := by decide +kernel
theorem dX7_asker_91 : decode cX7_asker 91 = .ok (.ifCond .eq 7, 3) := by decide +kernel
theorem dX7_asker_94 : decode cX7_asker 94 = .ok (.iconst 1, 1) := by decide +kernel
theorem dX7_asker_95 : decode cX7_asker 95 = .ok (.goto 24, 3) := by decide +kernel
theorem dX7_asker_98 : decode cX7_asker 98 = .ok (.iconst 0, 1) := by decide +kernel
theorem dX7_asker_99 : decode cX7_asker 99 = .ok (.goto 20, 3) := by decide +kernel
theorem dX7_asker_102 : decode cX7_asker 102 = .ok (.iload_n 3, 1) := by decide +kernel
theorem dX7_asker_103 : decode cX7_asker 103 = .ok (.ifCond .eq 15, 3) := by decide +kernel
theorem dX7_asker_106 : decode cX7_asker 106 = .ok (.aload_n 0, 1) := by decide +kernel
theorem dX7_asker_107 : decode cX7_asker 107 = .ok (.getfield 75, 3) := by decide +kernel
theorem dX7_asker_110 : decode cX7_asker 110 = .ok (.iload_n 1, 1) := by decide +kernel
theorem dX7_asker_111 : decode cX7_asker 111 = .ok (.iaload, 1) := by decide +kernel
theorem dX7_asker_112 : decode cX7_asker 112 = .ok (.invokestatic 145, 3) := by decide +kernel
theorem dX7_asker_115 : decode cX7_asker 115 = .ok (.goto 4, 3) := by decide +kernel
theorem dX7_asker_118 : decode cX7_asker 118 = .ok (.iconst 0, 1) := by decide +kernel
theorem dX7_asker_119 : decode cX7_asker 119 = .ok (.ireturn, 1) := by decide +kernel
theorem dX7_noRequest_0 : decode cX7_noRequest 0 = .ok (.iload_n 1, 1) := by decide +kernel
theorem dX7_noRequest_1 : decode cX7_noRequest 1 = .ok (.ifCond .lt 11, 3) := by decide +kernel
theorem dX7_noRequest_4 : decode cX7_noRequest 4 = .ok (.iload_n 1, 1) := by decide +kernel
theorem dX7_noRequest_5 : decode cX7_noRequest 5 = .ok (.aload_n 0, 1) := by decide +kernel
theorem dX7_noRequest_6 : decode cX7_noRequest 6 = .ok (.getfield 134, 3) := by decide +kernel
theorem dX7_noRequest_9 : decode cX7_noRequest 9 = .ok (.if_icmp .lt 7, 3) := by decide +kernel
theorem dX7_noRequest_12 : decode cX7_noRequest 12 = .ok (.iconst 1, 1) := by decide +kernel
theorem dX7_noRequest_13 : decode cX7_noRequest 13 = .ok (.goto 4, 3) := by decide +kernel
theorem dX7_noRequest_16 : decode cX7_noRequest 16 = .ok (.iconst 0, 1) := by decide +kernel
theorem dX7_noRequest_17 : decode cX7_noRequest 17 = .ok (.ireturn, 1) := by decide +kernel
set_option maxRecDepth 20000 in
theorem ggX7_request_X7_noRequest : GoodIn wsX7_request wsX7_noRequest := goodIn_r _ [11, 12, 13, 14, 15, 16, 17, 18, 19, 20, 21, 22, 23, 24, 25, 26, 27, 28, 29, 30, 31, 32, 33, 34, 35, 36, 37, 38, 39, 40, 41, 42, 43, 44, 45, 46, 47, 48, 49, 50, 51] (by decide +kernel) (by decide +kernel)
set_option maxRecDepth 20000 in
theorem gX7_request_X7_noRequest : GoodIn wsX7_request (wsV RX7 185 RX7 yX7_noRequest wsX7_noRequest) := goodIn_app (goodIn_of _ (by decide +kernel)) ggX7_request_X7_noRequest
theorem dX7_request_0 : decode cX7_request 0 = .ok (.aload_n 0, 1) := by decide +kernel
theorem dX7_request_1 : decode cX7_request 1 = .ok (.aload_n 0, 1) := by decide +kernel
theorem dX7_request_2 : decode cX7_request 2 = .ok (.iload_n 1, 1) := by decide +kernel
theorem dX7_request_3 : decode cX7_request 3 = .ok (.invokevirtual 185, 3) := by decide +kernel
theorem dX7_request_6 : decode cX7_request 6 = .ok (.ifCond .ne 12, 3) := by decide +kernel
theorem dX7_request_9 : decode cX7_request 9 = .ok (.iload_n 2, 1) := by decide +kernel
theorem dX7_request_10 : decode cX7_request 10 = .ok (.ifCond .lt 8, 3) := by decide +kernel
theorem dX7_request_13 : decode cX7_request 13 = .ok (.iload_n 2, 1) := by decide +kernel
theorem dX7_request_14 : decode cX7_request 14 = .ok (.iconst 3, 1) := by decide +kernel
theorem dX7_request_15 : decode cX7_request 15 = .ok (.if_icmp .le 7, 3) := by decide +kernel
theorem dX7_request_18 : decode cX7_request 18 = .ok (.iconst 1, 1) := by decide +kernel
theorem dX7_request_19 : decode cX7_request 19 = .ok (.goto 4, 3) := by decide +kernel
theorem dX7_request_22 : decode cX7_request 22 = .ok (.iconst 0, 1) := by decide +kernel
theorem dX7_request_23 : decode cX7_request 23 = .ok (.putfield 120, 3) := by decide +kernel
theorem dX7_request_26 : decode cX7_request 26 = .ok (.aload_n 0, 1) := by decide +kernel
theorem dX7_request_27 : decode cX7_request 27 = .ok (.getfield 120, 3) := by decide +kernel
theorem dX7_request_30 : decode cX7_request 30 = .ok (.ifCond .le 5, 3) := by decide +kernel
theorem dX7_request_33 : decode cX7_request 33 = .ok (.iconst 0, 1) := by decide +kernel
theorem dX7_request_34 : decode cX7_request 34 = .ok (.ireturn, 1) := by decide +kernel
theorem dX7_request_35 : decode cX7_request 35 = .ok (.aload_n 0, 1) := by decide +kernel
theorem dX7_request_36 : decode cX7_request 36 = .ok (.getfield 105, 3) := by decide +kernel
theorem dX7_request_39 : decode cX7_request 39 = .ok (.iload_n 1, 1) := by decide +kernel
theorem dX7_request_40 : decode cX7_request 40 = .ok (.iaload, 1) := by decide +kernel
theorem dX7_request_41 : decode cX7_request 41 = .ok (.iconst 1, 1) := by decide +kernel
theorem dX7_request_42 : decode cX7_request 42 = .ok (.if_icmp .ne 7, 3) := by decide +kernel
theorem dX7_request_45 : decode cX7_request 45 = .ok (.iconst 1, 1) := by decide +kernel
theorem dX7_request_46 : decode cX7_request 46 = .ok (.goto 4, 3) := by decide +kernel
theorem dX7_request_49 : decode cX7_request 49 = .ok (.iconst 0, 1) := by decide +kernel
theorem dX7_request_50 : decode cX7_request 50 = .ok (.istore_n 3, 1) := by decide +kernel
theorem dX7_request_51 : decode cX7_request 51 = .ok (.iload_n 2, 1) := by decide +kernel
theorem dX7_request_52 : decode cX7_request 52 = .ok (.ifCond .ne 12, 3) := by decide +kernel
theorem dX7_request_55 : decode cX7_request 55 = .ok (.aload_n 0, 1) := by decide +kernel
theorem dX7_request_56 : decode cX7_request 56 = .ok (.getfield 105, 3) := by decide +kernel
theorem dX7_request_59 : decode cX7_request 59 = .ok (.iload_n 1, 1) := by decide +kernel
theorem dX7_request_60 : decode cX7_request 60 = .ok (.iaload, 1) := by decide +kernel
theorem dX7_request_61 : decode cX7_request 61 = .ok (.goto 66, 3) := by decide +kernel
theorem dX7_request_64 : decode cX7_request 64 = .ok (.iload_n 2, 1) := by decide +kernel
theorem dX7_request_65 : decode cX7_request 65 = .ok (.iconst 1, 1) := by decide +kernel
theorem dX7_request_66 : decode cX7_request 66 = .ok (.if_icmp .ne 24, 3) := by decide +kernel
theorem dX7_request_69 : decode cX7_request 69 = .ok (.iload_n 3, 1) := by decide +kernel
theorem dX7_request_70 : decode cX7_request 70 = .ok (.ifCond .eq 16, 3) := by decide +kernel
theorem dX7_request_73 : decode cX7_request 73 = .ok (.aload_n 0, 1) := by decide +kernel
theorem dX7_request_74 : decode cX7_request 74 = .ok (.getfield 108, 3) := by decide +kernel
theorem dX7_request_77 : decode cX7_request 77 = .ok (.iload_n 1, 1) := by decide +kernel
theorem dX7_request_78 : decode cX7_request 78 = .ok (.baload, 1) := by decide +kernel
theorem dX7_request_79 : decode cX7_request 79 = .ok (.ifCond .eq 7, 3) := by decide +kernel
theorem dX7_request_82 : decode cX7_request 82 = .ok (.iconst 1, 1) := by decide +kernel
theorem dX7_request_83 : decode cX7_request 83 = .ok (.goto 44, 3) := by decide +kernel
theorem dX7_request_86 : decode cX7_request 86 = .ok (.iconst 0, 1) := by decide +kernel
theorem dX7_request_87 : decode cX7_request 87 = .ok (.goto 40, 3) := by decide +kernel
theorem dX7_request_90 : decode cX7_request 90 = .ok (.iload_n 2, 1) := by decide +kernel
theorem dX7_request_91 : decode cX7_request 91 = .ok (.iconst 2, 1) := by decide +kernel
theorem dX7_request_92 : decode cX7_request 92 = .ok (.if_icmp .ne 29, 3) := by decide +kernel
theorem dX7_request_95 : decode cX7_request 95 = .ok (.iload_n 3, 1) := by decide +kernel
theorem dX7_request_96 : decode cX7_request 96 = .ok (.ifCond .eq 21, 3) := by decide +kernel
theorem dX7_request_99 : decode cX7_request 99 = .ok (.aload_n 0, 1) := by decide +kernel
theorem dX7_request_100 : decode cX7_request 100 = .ok (.getfield 111, 3) := by decide +kernel
theorem dX7_request_103 : decode cX7_request 103 = .ok (.iload_n 1, 1) := by decide +kernel
theorem dX7_request_104 : decode cX7_request 104 = .ok (.baload, 1) := by decide +kernel
theorem dX7_request_105 : decode cX7_request 105 = .ok (.ifCond .eq 12, 3) := by decide +kernel
theorem dX7_request_108 : decode cX7_request 108 = .ok (.aload_n 0, 1) := by decide +kernel
theorem dX7_request_109 : decode cX7_request 109 = .ok (.getfield 114, 3) := by decide +kernel
theorem dX7_request_112 : decode cX7_request 112 = .ok (.iload_n 1, 1) := by decide +kernel
theorem dX7_request_113 : decode cX7_request 113 = .ok (.iaload, 1) := by decide +kernel
theorem dX7_request_114 : decode cX7_request 114 = .ok (.goto 13, 3) := by decide +kernel
theorem dX7_request_117 : decode cX7_request 117 = .ok (.iconst (-1), 1) := by decide +kernel
theorem dX7_request_118 : decode cX7_request 118 = .ok (.goto 9, 3) := by decide +kernel
theorem dX7_request_121 : decode cX7_request 121 = .ok (.aload_n 0, 1) := by decide +kernel
theorem dX7_request_122 : decode cX7_request 122 = .ok (.getfield 102, 3) := by decide +kernel
theorem dX7_request_125 : decode cX7_request 125 = .ok (.iload_n 1, 1) := by decide +kernel
theorem dX7_request_126 : decode cX7_request 126 = .ok (.iaload, 1) := by decide +kernel
theorem dX7_request_127 : decode cX7_request 127 = .ok (.ireturn, 1) := by decide +kernel
set_option maxRecDepth 20000 in
theorem ggX7_result_X7_noRequest : GoodIn wsX7_result wsX7_noRequest := goodIn_r _ [9, 10, 11, 12, 13, 14, 15, 16, 17, 18, 19, 20, 21, 22, 23, 24, 25, 26, 27, 28, 29, 30, 31, 32, 33, 34, 35, 36, 37, 38, 39, 40, 41, 42, 43, 44, 45, 46, 47, 48, 49] (by decide +kernel) (by decide +kernel)
set_option maxRecDepth 20000 in
theorem gX7_result_X7_noRequest : GoodIn wsX7_result (wsV RX7 185 RX7 yX7_noRequest wsX7_noRequest) := goodIn_app (goodIn_of _ (by decide +kernel)) ggX7_result_X7_noRequest
theorem dX7_result_0 : decode cX7_result 0 = .ok (.aload_n 0, 1) := by decide +kernel
theorem dX7_result_1 : decode cX7_result 1 = .ok (.aload_n 0, 1) := by decide +kernel
theorem dX7_result_2 : decode cX7_result 2 = .ok (.iload_n 1, 1) := by decide +kernel
theorem dX7_result_3 : decode cX7_result 3 = .ok (.invokevirtual 185, 3) := by decide +kernel
theorem dX7_result_6 : decode cX7_result 6 = .ok (.ifCond .eq 7, 3) := by decide +kernel
theorem dX7_result_9 : decode cX7_result 9 = .ok (.iconst 1, 1) := by decide +kernel
theorem dX7_result_10 : decode cX7_result 10 = .ok (.goto 4, 3) := by decide +kernel
theorem dX7_result_13 : decode cX7_result 13 = .ok (.iconst 0, 1) := by decide +kernel
theorem dX7_result_14 : decode cX7_result 14 = .ok (.putfield 120, 3) := by decide +kernel
theorem dX7_result_17 : decode cX7_result 17 = .ok (.aload_n 0, 1) := by decide +kernel
theorem dX7_result_18 : decode cX7_result 18 = .ok (.getfield 120, 3) := by decide +kernel
theorem dX7_result_21 : decode cX7_result 21 = .ok (.ifCond .ne 31, 3) := by decide +kernel
theorem dX7_result_24 : decode cX7_result 24 = .ok (.aload_n 0, 1) := by decide +kernel
theorem dX7_result_25 : decode cX7_result 25 = .ok (.getfield 105, 3) := by decide +kernel
theorem dX7_result_28 : decode cX7_result 28 = .ok (.iload_n 1, 1) := by decide +kernel
theorem dX7_result_29 : decode cX7_result 29 = .ok (.iaload, 1) := by decide +kernel
theorem dX7_result_30 : decode cX7_result 30 = .ok (.iconst 1, 1) := by decide +kernel
theorem dX7_result_31 : decode cX7_result 31 = .ok (.if_icmp .ne 21, 3) := by decide +kernel
theorem dX7_result_34 : decode cX7_result 34 = .ok (.aload_n 0, 1) := by decide +kernel
theorem dX7_result_35 : decode cX7_result 35 = .ok (.getfield 111, 3) := by decide +kernel
theorem dX7_result_38 : decode cX7_result 38 = .ok (.iload_n 1, 1) := by decide +kernel
theorem dX7_result_39 : decode cX7_result 39 = .ok (.baload, 1) := by decide +kernel
theorem dX7_result_40 : decode cX7_result 40 = .ok (.ifCond .eq 12, 3) := by decide +kernel
theorem dX7_result_43 : decode cX7_result 43 = .ok (.aload_n 0, 1) := by decide +kernel
theorem dX7_result_44 : decode cX7_result 44 = .ok (.getfield 117, 3) := by decide +kernel
theorem dX7_result_47 : decode cX7_result 47 = .ok (.iload_n 1, 1) := by decide +kernel
theorem dX7_result_48 : decode cX7_result 48 = .ok (.laload, 1) := by decide +kernel
theorem dX7_result_49 : decode cX7_result 49 = .ok (.goto 4, 3) := by decide +kernel
theorem dX7_result_52 : decode cX7_result 52 = .ok (.lconst 0, 1) := by decide +kernel
theorem dX7_result_53 : decode cX7_result 53 = .ok (.lreturn, 1) := by decide +kernel
theorem dJ6_bitCount_0f7a4_0 : decode cJ6_bitCount_0f7a4 0 = .ok (.iload_n 0, 1) := by decide +kernel
theorem dJ6_bitCount_0f7a4_1 : decode cJ6_bitCount_0f7a4 1 = .ok (.iload_n 0, 1) := by decide +kernel
theorem dJ6_bitCount_0f7a4_2 : decode cJ6_bitCount_0f7a4 2 = .ok (.iconst 1, 1) := by decide +kernel
theorem dJ6_bitCount_0f7a4_3 : decode cJ6_bitCount_0f7a4 3 = .ok (.iushr, 1) := by decide +kernel
theorem dJ6_bitCount_0f7a4_4 : decode cJ6_bitCount_0f7a4 4 = .ok (.ldc_w 265, 3) := by decide +kernel
theorem dJ6_bitCount_0f7a4_7 : decode cJ6_bitCount_0f7a4 7 = .ok (.iand, 1) := by decide +kernel
theorem dJ6_bitCount_0f7a4_8 : decode cJ6_bitCount_0f7a4 8 = .ok (.isub, 1) := by decide +kernel
theorem dJ6_bitCount_0f7a4_9 : decode cJ6_bitCount_0f7a4 9 = .ok (.istore_n 0, 1) := by decide +kernel
theorem dJ6_bitCount_0f7a4_10 : decode cJ6_bitCount_0f7a4 10 = .ok (.iload_n 0, 1) := by decide +kernel
theorem dJ6_bitCount_0f7a4_11 : decode cJ6_bitCount_0f7a4 11 = .ok (.ldc_w 266, 3) := by decide +kernel
theorem dJ6_bitCount_0f7a4_14 : decode cJ6_bitCount_0f7a4 14 = .ok (.iand, 1) := by decide +kernel
theorem dJ6_bitCount_0f7a4_15 : decode cJ6_bitCount_0f7a4 15 = .ok (.iload_n 0, 1) := by decide +kernel
theorem dJ6_bitCount_0f7a4_16 : decode cJ6_bitCount_0f7a4 16 = .ok (.iconst 2, 1) := by decide +kernel
theorem dJ6_bitCount_0f7a4_17 : decode cJ6_bitCount_0f7a4 17 = .ok (.iushr, 1) := by decide +kernel
theorem dJ6_bitCount_0f7a4_18 : decode cJ6_bitCount_0f7a4 18 = .ok (.ldc_w 266, 3) := by decide +kernel
theorem dJ6_bitCount_0f7a4_21 : decode cJ6_bitCount_0f7a4 21 = .ok (.iand, 1) := by decide +kernel
theorem dJ6_bitCount_0f7a4_22 : decode cJ6_bitCount_0f7a4 22 = .ok (.iadd, 1) := by decide +kernel
theorem dJ6_bitCount_0f7a4_23 : decode cJ6_bitCount_0f7a4 23 = .ok (.istore_n 0, 1) := by decide +kernel
theorem dJ6_bitCount_0f7a4_24 : decode cJ6_bitCount_0f7a4 24 = .ok (.iload_n 0, 1) := by decide +kernel
theorem dJ6_bitCount_0f7a4_25 : decode cJ6_bitCount_0f7a4 25 = .ok (.iload_n 0, 1) := by decide +kernel
theorem dJ6_bitCount_0f7a4_26 : decode cJ6_bitCount_0f7a4 26 = .ok (.iconst 4, 1) := by decide +kernel
theorem dJ6_bitCount_0f7a4_27 : decode cJ6_bitCount_0f7a4 27 = .ok (.iushr, 1) := by decide +kernel
theorem dJ6_bitCount_0f7a4_28 : decode cJ6_bitCount_0f7a4 28 = .ok (.iadd, 1) := by decide +kernel
theorem dJ6_bitCount_0f7a4_29 : decode cJ6_bitCount_0f7a4 29 = .ok (.ldc_w 267, 3) := by decide +kernel
theorem dJ6_bitCount_0f7a4_32 : decode cJ6_bitCount_0f7a4 32 = .ok (.iand, 1) := by decide +kernel
theorem dJ6_bitCount_0f7a4_33 : decode cJ6_bitCount_0f7a4 33 = .ok (.istore_n 0, 1) := by decide +kernel
theorem dJ6_bitCount_0f7a4_34 : decode cJ6_bitCount_0f7a4 34 = .ok (.iload_n 0, 1) := by decide +kernel
theorem dJ6_bitCount_0f7a4_35 : decode cJ6_bitCount_0f7a4 35 = .ok (.iload_n 0, 1) := by decide +kernel
theorem dJ6_bitCount_0f7a4_36 : decode cJ6_bitCount_0f7a4 36 = .ok (.bipush 8, 2) := by decide +kernel
theorem dJ6_bitCount_0f7a4_38 : decode cJ6_bitCount_0f7a4 38 = .ok (.iushr, 1) := by decide +kernel
theorem dJ6_bitCount_0f7a4_39 : decode cJ6_bitCount_0f7a4 39 = .ok (.iadd, 1) := by decide +kernel
theorem dJ6_bitCount_0f7a4_40 : decode cJ6_bitCount_0f7a4 40 = .ok (.istore_n 0, 1) := by decide +kernel
theorem dJ6_bitCount_0f7a4_41 : decode cJ6_bitCount_0f7a4 41 = .ok (.iload_n 0, 1) := by decide +kernel
theorem dJ6_bitCount_0f7a4_42 : decode cJ6_bitCount_0f7a4 42 = .ok (.iload_n 0, 1) := by decide +kernel
theorem dJ6_bitCount_0f7a4_43 : decode cJ6_bitCount_0f7a4 43 = .ok (.bipush 16, 2) := by decide +kernel
theorem dJ6_bitCount_0f7a4_45 : decode cJ6_bitCount_0f7a4 45 = .ok (.iushr, 1) := by decide +kernel
theorem dJ6_bitCount_0f7a4_46 : decode cJ6_bitCount_0f7a4 46 = .ok (.iadd, 1) := by decide +kernel
theorem dJ6_bitCount_0f7a4_47 : decode cJ6_bitCount_0f7a4 47 = .ok (.istore_n 0, 1) := by decide +kernel
theorem dJ6_bitCount_0f7a4_48 : decode cJ6_bitCount_0f7a4 48 = .ok (.iload_n 0, 1) := by decide +kernel
theorem dJ6_bitCount_0f7a4_49 : decode cJ6_bitCount_0f7a4 49 = .ok (.bipush 63, 2) := by decide +kernel
theorem dJ6_bitCount_0f7a4_51 : decode cJ6_bitCount_0f7a4 51 = .ok (.iand, 1) := by decide +kernel
theorem dJ6_bitCount_0f7a4_52 : decode cJ6_bitCount_0f7a4 52 = .ok (.ireturn, 1) := by decide +kernel
theorem dJ9_max_7cf53_0 : decode cJ9_max_7cf53 0 = .ok (.iload_n 0, 1) := by decide +kernel
theorem dJ9_max_7cf53_1 : decode cJ9_max_7cf53 1 = .ok (.iload_n 1, 1) := by decide +kernel
theorem dJ9_max_7cf53_2 : decode cJ9_max_7cf53 2 = .ok (.if_icmp .lt 7, 3) := by decide +kernel
theorem dJ9_max_7cf53_5 : decode cJ9_max_7cf53 5 = .ok (.iload_n 0, 1) := by decide +kernel
theorem dJ9_max_7cf53_6 : decode cJ9_max_7cf53 6 = .ok (.goto 4, 3) := by decide +kernel
theorem dJ9_max_7cf53_9 : decode cJ9_max_7cf53 9 = .ok (.iload_n 1, 1) := by decide +kernel
theorem dJ9_max_7cf53_10 : decode cJ9_max_7cf53 10 = .ok (.ireturn, 1) := by decide +kernel
set_option maxRecDepth 20000 in
theorem ggL_ask_X6_ask : GoodIn wsL_ask wsX6_ask := goodIn_ca (goodIn_ca (goodIn_r _ [7, 8, 9, 10, 11, 12, 13, 14, 15, 16, 6, 17, 18, 19, 20, 21, 22, 23, 24, 25, 26, 27, 28, 29, 30, 31, 32, 33, 34, 35, 36, 37, 38, 39, 40, 41, 42, 43, 44, 45, 46, 47, 48, 49, 50, 51, 52, 53, 54, 55, 56, 57, 58, 59, 60, 61, 62, 63, 64, 65, 66, 67, 68, 69, 70, 71, 72, 73, 74, 75, 76, 77, 78, 79, 80, 81, 82, 83, 84, 85, 86, 87, 88, 89, 90, 91] (by decide +kernel) (by decide +kernel)) (goodIn_sub (fun _ h => List.mem_cons_of_mem _ (List.mem_append_left _ (List.mem_append_right _ h))) (by decide +kernel))) (goodIn_sub (fun _ h => List.mem_cons_of_mem _ (List.mem_append_right _ h)) (by decide +kernel))
set_option maxRecDepth 20000 in
theorem gL_ask_X6_ask : GoodIn wsL_ask (wsV RL 7 RX6 yX6_ask wsX6_ask) := goodIn_app (goodIn_of _ (by decide +kernel)) ggL_ask_X6_ask
theorem dL_ask_0 : decode cL_ask 0 = .ok (.aload 6, 2) := by decide +kernel
theorem dL_ask_2 : decode cL_ask 2 = .ok (.iconst 0, 1) := by decide +kernel
theorem dL_ask_3 : decode cL_ask 3 = .ok (.aload_n 0, 1) := by decide +kernel
theorem dL_ask_4 : decode cL_ask 4 = .ok (.iload_n 1, 1) := by decide +kernel
theorem dL_ask_5 : decode cL_ask 5 = .ok (.iload_n 2, 1) := by decide +kernel
theorem dL_ask_6 : decode cL_ask 6 = .ok (.iload_n 3, 1) := by decide +kernel
theorem dL_ask_7 : decode cL_ask 7 = .ok (.lload 4, 2) := by decide +kernel
theorem dL_ask_9 : decode cL_ask 9 = .ok (.invokevirtual 7, 3) := by decide +kernel
theorem dL_ask_12 : decode cL_ask 12 = .ok (.i2l, 1) := by decide +kernel
theorem dL_ask_13 : decode cL_ask 13 = .ok (.lastore, 1) := by decide +kernel
theorem dL_ask_14 : decode cL_ask 14 = .ok (.goto 11, 3) := by decide +kernel
theorem dL_ask_17 : decode cL_ask 17 = .ok (.astore 7, 2) := by decide +kernel
theorem dL_ask_19 : decode cL_ask 19 = .ok (.iconst 1, 1) := by decide +kernel
theorem dL_ask_20 : decode cL_ask 20 = .ok (.ireturn, 1) := by decide +kernel
theorem dL_ask_21 : decode cL_ask 21 = .ok (.astore 7, 2) := by decide +kernel
theorem dL_ask_23 : decode cL_ask 23 = .ok (.iconst 2, 1) := by decide +kernel
theorem dL_ask_24 : decode cL_ask 24 = .ok (.ireturn, 1) := by decide +kernel
theorem dL_ask_25 : decode cL_ask 25 = .ok (.iconst 0, 1) := by decide +kernel
theorem dL_ask_26 : decode cL_ask 26 = .ok (.ireturn, 1) := by decide +kernel
set_option maxRecDepth 20000 in
theorem ggL_give_X6_give : GoodIn wsL_give wsX6_give := goodIn_ca (goodIn_r _ [6, 7, 8, 9, 5, 10, 11, 12, 13, 14, 15, 16, 17, 18, 19, 20, 21, 22, 23, 24, 25, 26, 27, 28, 29, 30, 31, 32, 33, 34, 35, 36, 37, 38, 39, 40, 41, 42] (by decide +kernel) (by decide +kernel)) (goodIn_sub (fun _ h => List.mem_cons_of_mem _ (List.mem_append_right _ h)) (by decide +kernel))
set_option maxRecDepth 20000 in
theorem gL_give_X6_give : GoodIn wsL_give (wsV RL 17 RX6 yX6_give wsX6_give) := goodIn_app (goodIn_of _ (by decide +kernel)) ggL_give_X6_give
theorem dL_give_0 : decode cL_give 0 = .ok (.aload_n 2, 1) := by decide +kernel
theorem dL_give_1 : decode cL_give 1 = .ok (.iconst 0, 1) := by decide +kernel
theorem dL_give_2 : decode cL_give 2 = .ok (.aload_n 0, 1) := by decide +kernel
theorem dL_give_3 : decode cL_give 3 = .ok (.iload_n 1, 1) := by decide +kernel
theorem dL_give_4 : decode cL_give 4 = .ok (.invokevirtual 17, 3) := by decide +kernel
theorem dL_give_7 : decode cL_give 7 = .ok (.i2l, 1) := by decide +kernel
theorem dL_give_8 : decode cL_give 8 = .ok (.lastore, 1) := by decide +kernel
theorem dL_give_9 : decode cL_give 9 = .ok (.goto 6, 3) := by decide +kernel
theorem dL_give_12 : decode cL_give 12 = .ok (.astore_n 3, 1) := by decide +kernel
theorem dL_give_13 : decode cL_give 13 = .ok (.iconst 1, 1) := by decide +kernel
theorem dL_give_14 : decode cL_give 14 = .ok (.ireturn, 1) := by decide +kernel
theorem dL_give_15 : decode cL_give 15 = .ok (.iconst 0, 1) := by decide +kernel
theorem dL_give_16 : decode cL_give 16 = .ok (.ireturn, 1) := by decide +kernel
set_option maxRecDepth 20000 in
theorem ggL_plan_X6_plan : GoodIn wsL_plan wsX6_plan := goodIn_ca (goodIn_ca (goodIn_r _ [7, 8, 9, 10, 6, 11, 12, 13, 14, 15, 16, 17, 18, 19, 20, 21, 22, 23, 24, 25, 26, 27, 28, 29, 30, 31, 32, 33, 34, 35, 36, 37] (by decide +kernel) (by decide +kernel)) (goodIn_sub (fun _ h => List.mem_cons_of_mem _ (List.mem_append_left _ (List.mem_append_right _ h))) (by decide +kernel))) (goodIn_sub (fun _ h => List.mem_cons_of_mem _ (List.mem_append_right _ h)) (by decide +kernel))
set_option maxRecDepth 20000 in
theorem gL_plan_X6_plan : GoodIn wsL_plan (wsV RL 21 RX6 yX6_plan wsX6_plan) := goodIn_app (goodIn_of _ (by decide +kernel)) ggL_plan_X6_plan
theorem dL_plan_0 : decode cL_plan 0 = .ok (.aload_n 0, 1) := by decide +kernel
theorem dL_plan_1 : decode cL_plan 1 = .ok (.iload_n 1, 1) := by decide +kernel
theorem dL_plan_2 : decode cL_plan 2 = .ok (.iload_n 2, 1) := by decide +kernel
theorem dL_plan_3 : decode cL_plan 3 = .ok (.iload_n 3, 1) := by decide +kernel
theorem dL_plan_4 : decode cL_plan 4 = .ok (.iload 4, 2) := by decide +kernel
theorem dL_plan_6 : decode cL_plan 6 = .ok (.invokevirtual 21, 3) := by decide +kernel
theorem dL_plan_9 : decode cL_plan 9 = .ok (.goto 11, 3) := by decide +kernel
theorem dL_plan_12 : decode cL_plan 12 = .ok (.astore 5, 2) := by decide +kernel
theorem dL_plan_14 : decode cL_plan 14 = .ok (.iconst 1, 1) := by decide +kernel
theorem dL_plan_15 : decode cL_plan 15 = .ok (.ireturn, 1) := by decide +kernel
theorem dL_plan_16 : decode cL_plan 16 = .ok (.astore 5, 2) := by decide +kernel
theorem dL_plan_18 : decode cL_plan 18 = .ok (.iconst 2, 1) := by decide +kernel
theorem dL_plan_19 : decode cL_plan 19 = .ok (.ireturn, 1) := by decide +kernel
theorem dL_plan_20 : decode cL_plan 20 = .ok (.iconst 0, 1) := by decide +kernel
theorem dL_plan_21 : decode cL_plan 21 = .ok (.ireturn, 1) := by decide +kernel
set_option maxRecDepth 20000 in
theorem ggL_take_X6_take : GoodIn wsL_take wsX6_take := goodIn_ca (goodIn_r _ [6, 7, 8, 9, 5, 10, 11, 12, 13, 14, 15, 16, 17, 18, 19, 20, 21, 22, 23, 24, 25, 26, 27, 28, 29, 30, 31, 32, 33, 34, 35, 36, 37, 38, 39, 40, 41, 42, 43, 44, 45, 46, 47, 48, 49, 50, 51, 52, 53, 54, 55, 56, 57, 58, 59, 60, 61, 62, 63, 64, 65, 66, 67, 68, 69, 70, 71, 72, 73, 74, 75, 76, 77, 78, 79, 80, 81, 82, 83, 84, 85, 86, 87, 88, 89, 90, 91, 92, 93, 94, 95, 96, 97, 98, 99, 100, 101, 102, 103, 104, 105, 106, 107, 108, 109, 110, 111, 112, 113, 114, 115, 116, 117, 118, 119, 120, 121, 122, 123, 124, 125, 126, 127, 128, 129, 130, 131, 132, 133, 134, 135, 136, 137, 138, 139, 140, 141, 142, 143, 144, 145, 146, 147, 148, 149, 150, 151, 152, 153, 154, 155, 156, 157, 158, 159, 160, 161, 162, 163, 164, 165, 166, 167, 168, 169, 170, 171, 172, 173, 174, 175, 176, 177, 178] (by decide +kernel) (by decide +kernel)) (goodIn_sub (fun _ h => List.mem_cons_of_mem _ (List.mem_append_right _ h)) (by decide +kernel))
set_option maxRecDepth 20000 in
theorem gL_take_X6_take : GoodIn wsL_take (wsV RL 25 RX6 yX6_take wsX6_take) := goodIn_app (goodIn_of _ (by decide +kernel)) ggL_take_X6_take
theorem dL_take_0 : decode cL_take 0 = .ok (.aload_n 2, 1) := by decide +kernel
theorem dL_take_1 : decode cL_take 1 = .ok (.iconst 0, 1) := by decide +kernel
theorem dL_take_2 : decode cL_take 2 = .ok (.aload_n 0, 1) := by decide +kernel
theorem dL_take_3 : decode cL_take 3 = .ok (.iload_n 1, 1) := by decide +kernel
theorem dL_take_4 : decode cL_take 4 = .ok (.invokevirtual 25, 3) := by decide +kernel
theorem dL_take_7 : decode cL_take 7 = .ok (.i2l, 1) := by decide +kernel
theorem dL_take_8 : decode cL_take 8 = .ok (.lastore, 1) := by decide +kernel
theorem dL_take_9 : decode cL_take 9 = .ok (.goto 6, 3) := by decide +kernel
theorem dL_take_12 : decode cL_take 12 = .ok (.astore_n 3, 1) := by decide +kernel
theorem dL_take_13 : decode cL_take 13 = .ok (.iconst 1, 1) := by decide +kernel
theorem dL_take_14 : decode cL_take 14 = .ok (.ireturn, 1) := by decide +kernel
theorem dL_take_15 : decode cL_take 15 = .ok (.iconst 0, 1) := by decide +kernel
theorem dL_take_16 : decode cL_take 16 = .ok (.ireturn, 1) := by decide +kernel
set_option maxRecDepth 20000 in
theorem ggL_run_X6_run : GoodIn wsL_run wsX6_run := goodIn_ca (goodIn_r _ [6, 7, 8, 9, 5, 10, 11, 12, 13, 14, 15, 16, 17, 18, 19, 20, 21, 22, 23, 24, 25, 26, 27, 28, 29, 30, 31, 32, 33, 34, 35, 36, 37, 38, 39, 40, 41, 42, 43, 44, 45, 46, 47, 48, 49, 50, 51, 52, 53, 54, 55, 56, 57, 58, 59, 60, 61, 62, 63, 64, 65, 66, 67, 68, 69, 70, 71, 72, 73, 74, 75, 76, 77, 78, 79, 80, 81, 82, 83, 84, 85, 86, 87, 88, 89, 90, 91, 92, 93, 94, 95, 96, 97, 98, 99, 100, 101, 102, 103, 104, 105, 106, 107, 108, 109, 110, 111, 112, 113, 114, 115, 116, 117, 118, 119, 120, 121, 122, 123, 124, 125, 126, 127, 128, 129, 130, 131, 132, 133, 134, 135, 136, 137, 138, 139, 140, 141, 142, 143, 144, 145, 146, 147, 148, 149, 150, 151, 152, 153, 154, 155, 156, 157, 158, 159, 160, 161, 162, 163, 164, 165, 166, 167, 168, 169, 170, 171, 172, 173, 174, 175, 176, 177, 178] (by decide +kernel) (by decide +kernel)) (goodIn_sub (fun _ h => List.mem_cons_of_mem _ (List.mem_append_right _ h)) (by decide +kernel))
set_option maxRecDepth 20000 in
theorem gL_run_X6_run : GoodIn wsL_run (wsV RL 28 RX6 yX6_run wsX6_run) := goodIn_app (goodIn_of _ (by decide +kernel)) ggL_run_X6_run
theorem dL_run_0 : decode cL_run 0 = .ok (.aload_n 2, 1) := by decide +kernel
theorem dL_run_1 : decode cL_run 1 = .ok (.iconst 0, 1) := by decide +kernel
theorem dL_run_2 : decode cL_run 2 = .ok (.aload_n 0, 1) := by decide +kernel
theorem dL_run_3 : decode cL_run 3 = .ok (.iload_n 1, 1) := by decide +kernel
theorem dL_run_4 : decode cL_run 4 = .ok (.invokevirtual 28, 3) := by decide +kernel
theorem dL_run_7 : decode cL_run 7 = .ok (.i2l, 1) := by decide +kernel
theorem dL_run_8 : decode cL_run 8 = .ok (.lastore, 1) := by decide +kernel
theorem dL_run_9 : decode cL_run 9 = .ok (.goto 6, 3) := by decide +kernel
theorem dL_run_12 : decode cL_run 12 = .ok (.astore_n 3, 1) := by decide +kernel
theorem dL_run_13 : decode cL_run 13 = .ok (.iconst 1, 1) := by decide +kernel
theorem dL_run_14 : decode cL_run 14 = .ok (.ireturn, 1) := by decide +kernel
theorem dL_run_15 : decode cL_run 15 = .ok (.iconst 0, 1) := by decide +kernel
theorem dL_run_16 : decode cL_run 16 = .ok (.ireturn, 1) := by decide +kernel
set_option maxRecDepth 20000 in
theorem ggL_lose_X6_lose : GoodIn wsL_lose wsX6_lose := goodIn_ca (goodIn_r _ [6, 7, 8, 9, 5, 10, 11, 12, 13, 14, 15, 16, 17, 18, 19, 20, 21, 22, 23, 24, 25, 26, 27, 28, 29, 30, 31, 32, 33, 34] (by decide +kernel) (by decide +kernel)) (goodIn_sub (fun _ h => List.mem_cons_of_mem _ (List.mem_append_right _ h)) (by decide +kernel))
set_option maxRecDepth 20000 in
theorem gL_lose_X6_lose : GoodIn wsL_lose (wsV RL 31 RX6 yX6_lose wsX6_lose) := goodIn_app (goodIn_of _ (by decide +kernel)) ggL_lose_X6_lose
theorem dL_lose_0 : decode cL_lose 0 = .ok (.aload_n 2, 1) := by decide +kernel
theorem dL_lose_1 : decode cL_lose 1 = .ok (.iconst 0, 1) := by decide +kernel
theorem dL_lose_2 : decode cL_lose 2 = .ok (.aload_n 0, 1) := by decide +kernel
theorem dL_lose_3 : decode cL_lose 3 = .ok (.iload_n 1, 1) := by decide +kernel
theorem dL_lose_4 : decode cL_lose 4 = .ok (.invokevirtual 31, 3) := by decide +kernel
theorem dL_lose_7 : decode cL_lose 7 = .ok (.i2l, 1) := by decide +kernel
theorem dL_lose_8 : decode cL_lose 8 = .ok (.lastore, 1) := by decide +kernel
theorem dL_lose_9 : decode cL_lose 9 = .ok (.goto 6, 3) := by decide +kernel
theorem dL_lose_12 : decode cL_lose 12 = .ok (.astore_n 3, 1) := by decide +kernel
theorem dL_lose_13 : decode cL_lose 13 = .ok (.iconst 1, 1) := by decide +kernel
theorem dL_lose_14 : decode cL_lose 14 = .ok (.ireturn, 1) := by decide +kernel
theorem dL_lose_15 : decode cL_lose 15 = .ok (.iconst 0, 1) := by decide +kernel
theorem dL_lose_16 : decode cL_lose 16 = .ok (.ireturn, 1) := by decide +kernel
set_option maxRecDepth 20000 in
theorem ggL_twice_X6_twice : GoodIn wsL_twice wsX6_twice := goodIn_ca (goodIn_r _ [6, 7, 8, 9, 5, 10, 11, 12, 13, 14, 15, 16, 17, 18, 19, 20, 21, 22, 23, 24, 25, 26, 27, 28, 29, 30, 31, 32, 33, 34] (by decide +kernel) (by decide +kernel)) (goodIn_sub (fun _ h => List.mem_cons_of_mem _ (List.mem_append_right _ h)) (by decide +kernel))
set_option maxRecDepth 20000 in
theorem gL_twice_X6_twice : GoodIn wsL_twice (wsV RL 34 RX6 yX6_twice wsX6_twice) := goodIn_app (goodIn_of _ (by decide +kernel)) ggL_twice_X6_twice
theorem dL_twice_0 : decode cL_twice 0 = .ok (.aload_n 2, 1) := by decide +kernel
theorem dL_twice_1 : decode cL_twice 1 = .ok (.iconst 0, 1) := by decide +kernel
theorem dL_twice_2 : decode cL_twice 2 = .ok (.aload_n 0, 1) := by decide +kernel
theorem dL_twice_3 : decode cL_twice 3 = .ok (.iload_n 1, 1) := by decide +kernel
theorem dL_twice_4 : decode cL_twice 4 = .ok (.invokevirtual 34, 3) := by decide +kernel
theorem dL_twice_7 : decode cL_twice 7 = .ok (.i2l, 1) := by decide +kernel
theorem dL_twice_8 : decode cL_twice 8 = .ok (.lastore, 1) := by decide +kernel
theorem dL_twice_9 : decode cL_twice 9 = .ok (.goto 6, 3) := by decide +kernel
theorem dL_twice_12 : decode cL_twice 12 = .ok (.astore_n 3, 1) := by decide +kernel
theorem dL_twice_13 : decode cL_twice 13 = .ok (.iconst 1, 1) := by decide +kernel
theorem dL_twice_14 : decode cL_twice 14 = .ok (.ireturn, 1) := by decide +kernel
theorem dL_twice_15 : decode cL_twice 15 = .ok (.iconst 0, 1) := by decide +kernel
theorem dL_twice_16 : decode cL_twice 16 = .ok (.ireturn, 1) := by decide +kernel
set_option maxRecDepth 20000 in
theorem ggL_down_X6_down : GoodIn wsL_down wsX6_down := goodIn_ca (goodIn_r _ [6, 7, 8, 9, 5, 10, 11, 12, 13, 14, 15, 16, 17, 18, 19] (by decide +kernel) (by decide +kernel)) (goodIn_sub (fun _ h => List.mem_cons_of_mem _ (List.mem_append_right _ h)) (by decide +kernel))
set_option maxRecDepth 20000 in
theorem gL_down_X6_down : GoodIn wsL_down (wsV RL 37 RX6 yX6_down wsX6_down) := goodIn_app (goodIn_of _ (by decide +kernel)) ggL_down_X6_down
theorem dL_down_0 : decode cL_down 0 = .ok (.aload_n 3, 1) := by decide +kernel
theorem dL_down_1 : decode cL_down 1 = .ok (.iconst 0, 1) := by decide +kernel
theorem dL_down_2 : decode cL_down 2 = .ok (.aload_n 0, 1) := by decide +kernel
theorem dL_down_3 : decode cL_down 3 = .ok (.iload_n 1, 1) := by decide +kernel
theorem dL_down_4 : decode cL_down 4 = .ok (.iload_n 2, 1) := by decide +kernel
theorem dL_down_5 : decode cL_down 5 = .ok (.invokevirtual 37, 3) := by decide +kernel
theorem dL_down_8 : decode cL_down 8 = .ok (.ifCond .eq 7, 3) := by decide +kernel
theorem dL_down_11 : decode cL_down 11 = .ok (.lconst 1, 1) := by decide +kernel
theorem dL_down_12 : decode cL_down 12 = .ok (.goto 4, 3) := by decide +kernel
theorem dL_down_15 : decode cL_down 15 = .ok (.lconst 0, 1) := by decide +kernel
theorem dL_down_16 : decode cL_down 16 = .ok (.lastore, 1) := by decide +kernel
theorem dL_down_17 : decode cL_down 17 = .ok (.goto 7, 3) := by decide +kernel
theorem dL_down_20 : decode cL_down 20 = .ok (.astore 4, 2) := by decide +kernel
theorem dL_down_22 : decode cL_down 22 = .ok (.iconst 1, 1) := by decide +kernel
theorem dL_down_23 : decode cL_down 23 = .ok (.ireturn, 1) := by decide +kernel
theorem dL_down_24 : decode cL_down 24 = .ok (.iconst 0, 1) := by decide +kernel
theorem dL_down_25 : decode cL_down 25 = .ok (.ireturn, 1) := by decide +kernel
set_option maxRecDepth 20000 in
theorem ggL_copy_X6_copy : GoodIn wsL_copy wsX6_copy := goodIn_ca (goodIn_r _ [6, 7, 8, 5, 9, 10, 11, 12, 13, 14, 15, 16, 17, 18, 19, 20, 21, 22, 23, 24, 25, 26, 27, 28, 29, 30, 31, 32, 33, 34, 35, 36, 37] (by decide +kernel) (by decide +kernel)) (goodIn_sub (fun _ h => List.mem_cons_of_mem _ (List.mem_append_right _ h)) (by decide +kernel))
set_option maxRecDepth 20000 in
theorem gL_copy_X6_copy : GoodIn wsL_copy (wsV RL 41 RX6 yX6_copy wsX6_copy) := goodIn_app (goodIn_of _ (by decide +kernel)) ggL_copy_X6_copy
theorem dL_copy_0 : decode cL_copy 0 = .ok (.aload_n 3, 1) := by decide +kernel
theorem dL_copy_1 : decode cL_copy 1 = .ok (.iconst 0, 1) := by decide +kernel
theorem dL_copy_2 : decode cL_copy 2 = .ok (.aload_n 0, 1) := by decide +kernel
theorem dL_copy_3 : decode cL_copy 3 = .ok (.iload_n 1, 1) := by decide +kernel
theorem dL_copy_4 : decode cL_copy 4 = .ok (.iload_n 2, 1) := by decide +kernel
theorem dL_copy_5 : decode cL_copy 5 = .ok (.invokevirtual 41, 3) := by decide +kernel
theorem dL_copy_8 : decode cL_copy 8 = .ok (.i2l, 1) := by decide +kernel
theorem dL_copy_9 : decode cL_copy 9 = .ok (.lastore, 1) := by decide +kernel
theorem dL_copy_10 : decode cL_copy 10 = .ok (.goto 7, 3) := by decide +kernel
theorem dL_copy_13 : decode cL_copy 13 = .ok (.astore 4, 2) := by decide +kernel
theorem dL_copy_15 : decode cL_copy 15 = .ok (.iconst 1, 1) := by decide +kernel
theorem dL_copy_16 : decode cL_copy 16 = .ok (.ireturn, 1) := by decide +kernel
theorem dL_copy_17 : decode cL_copy 17 = .ok (.iconst 0, 1) := by decide +kernel
theorem dL_copy_18 : decode cL_copy 18 = .ok (.ireturn, 1) := by decide +kernel
set_option maxRecDepth 20000 in
theorem ggL_message_X6_message : GoodIn wsL_message wsX6_message := goodIn_ca (goodIn_r _ [6, 7, 8, 9, 10, 11, 5, 12, 13, 14, 15, 16, 17, 18, 19, 20, 21, 22, 23, 24, 25, 26, 27, 28, 29, 30, 31, 32, 33, 34, 35, 36, 37] (by decide +kernel) (by decide +kernel)) (goodIn_sub (fun _ h => List.mem_cons_of_mem _ (List.mem_append_right _ h)) (by decide +kernel))
set_option maxRecDepth 20000 in
theorem gL_message_X6_message : GoodIn wsL_message (wsV RL 45 RX6 yX6_message wsX6_message) := goodIn_app (goodIn_of _ (by decide +kernel)) ggL_message_X6_message
theorem dL_message_0 : decode cL_message 0 = .ok (.aload_n 3, 1) := by decide +kernel
theorem dL_message_1 : decode cL_message 1 = .ok (.iconst 0, 1) := by decide +kernel
theorem dL_message_2 : decode cL_message 2 = .ok (.aload_n 0, 1) := by decide +kernel
theorem dL_message_3 : decode cL_message 3 = .ok (.iload_n 1, 1) := by decide +kernel
theorem dL_message_4 : decode cL_message 4 = .ok (.iload_n 2, 1) := by decide +kernel
theorem dL_message_5 : decode cL_message 5 = .ok (.invokevirtual 45, 3) := by decide +kernel
theorem dL_message_8 : decode cL_message 8 = .ok (.i2l, 1) := by decide +kernel
theorem dL_message_9 : decode cL_message 9 = .ok (.lastore, 1) := by decide +kernel
theorem dL_message_10 : decode cL_message 10 = .ok (.goto 7, 3) := by decide +kernel
theorem dL_message_13 : decode cL_message 13 = .ok (.astore 4, 2) := by decide +kernel
theorem dL_message_15 : decode cL_message 15 = .ok (.iconst 1, 1) := by decide +kernel
theorem dL_message_16 : decode cL_message 16 = .ok (.ireturn, 1) := by decide +kernel
theorem dL_message_17 : decode cL_message 17 = .ok (.iconst 0, 1) := by decide +kernel
theorem dL_message_18 : decode cL_message 18 = .ok (.ireturn, 1) := by decide +kernel
set_option maxRecDepth 20000 in
theorem ggL_keeper_X6_keeper : GoodIn wsL_keeper wsX6_keeper := goodIn_ca (goodIn_r _ [6, 7, 8, 9, 10, 5, 11, 12, 13, 14, 15, 16, 17, 18, 19, 20, 21, 22, 23, 24, 25, 26, 27, 28, 29, 30, 31, 32, 33, 34, 35] (by decide +kernel) (by decide +kernel)) (goodIn_sub (fun _ h => List.mem_cons_of_mem _ (List.mem_append_right _ h)) (by decide +kernel))
set_option maxRecDepth 20000 in
theorem gL_keeper_X6_keeper : GoodIn wsL_keeper (wsV RL 48 RX6 yX6_keeper wsX6_keeper) := goodIn_app (goodIn_of _ (by decide +kernel)) ggL_keeper_X6_keeper
theorem dL_keeper_0 : decode cL_keeper 0 = .ok (.aload 4, 2) := by decide +kernel
theorem dL_keeper_2 : decode cL_keeper 2 = .ok (.iconst 0, 1) := by decide +kernel
theorem dL_keeper_3 : decode cL_keeper 3 = .ok (.aload_n 0, 1) := by decide +kernel
theorem dL_keeper_4 : decode cL_keeper 4 = .ok (.iload_n 1, 1) := by decide +kernel
theorem dL_keeper_5 : decode cL_keeper 5 = .ok (.iload_n 2, 1) := by decide +kernel
theorem dL_keeper_6 : decode cL_keeper 6 = .ok (.iload_n 3, 1) := by decide +kernel
theorem dL_keeper_7 : decode cL_keeper 7 = .ok (.invokevirtual 48, 3) := by decide +kernel
theorem dL_keeper_10 : decode cL_keeper 10 = .ok (.i2l, 1) := by decide +kernel
theorem dL_keeper_11 : decode cL_keeper 11 = .ok (.lastore, 1) := by decide +kernel
theorem dL_keeper_12 : decode cL_keeper 12 = .ok (.goto 7, 3) := by decide +kernel
theorem dL_keeper_15 : decode cL_keeper 15 = .ok (.astore 5, 2) := by decide +kernel
theorem dL_keeper_17 : decode cL_keeper 17 = .ok (.iconst 1, 1) := by decide +kernel
theorem dL_keeper_18 : decode cL_keeper 18 = .ok (.ireturn, 1) := by decide +kernel
theorem dL_keeper_19 : decode cL_keeper 19 = .ok (.iconst 0, 1) := by decide +kernel
theorem dL_keeper_20 : decode cL_keeper 20 = .ok (.ireturn, 1) := by decide +kernel
set_option maxRecDepth 20000 in
theorem ggL_kept_X6_kept : GoodIn wsL_kept wsX6_kept := goodIn_ca (goodIn_r _ [6, 7, 8, 5, 9, 10, 11, 12, 13, 14, 15, 16, 17, 18, 19, 20, 21, 22, 23, 24, 25, 26, 27, 28, 29] (by decide +kernel) (by decide +kernel)) (goodIn_sub (fun _ h => List.mem_cons_of_mem _ (List.mem_append_right _ h)) (by decide +kernel))
set_option maxRecDepth 20000 in
theorem gL_kept_X6_kept : GoodIn wsL_kept (wsV RL 52 RX6 yX6_kept wsX6_kept) := goodIn_app (goodIn_of _ (by decide +kernel)) ggL_kept_X6_kept
theorem dL_kept_0 : decode cL_kept 0 = .ok (.aload_n 3, 1) := by decide +kernel
theorem dL_kept_1 : decode cL_kept 1 = .ok (.iconst 0, 1) := by decide +kernel
theorem dL_kept_2 : decode cL_kept 2 = .ok (.aload_n 0, 1) := by decide +kernel
theorem dL_kept_3 : decode cL_kept 3 = .ok (.iload_n 1, 1) := by decide +kernel
theorem dL_kept_4 : decode cL_kept 4 = .ok (.iload_n 2, 1) := by decide +kernel
theorem dL_kept_5 : decode cL_kept 5 = .ok (.invokevirtual 52, 3) := by decide +kernel
theorem dL_kept_8 : decode cL_kept 8 = .ok (.lastore, 1) := by decide +kernel
theorem dL_kept_9 : decode cL_kept 9 = .ok (.goto 7, 3) := by decide +kernel
theorem dL_kept_12 : decode cL_kept 12 = .ok (.astore 4, 2) := by decide +kernel
theorem dL_kept_14 : decode cL_kept 14 = .ok (.iconst 1, 1) := by decide +kernel
theorem dL_kept_15 : decode cL_kept 15 = .ok (.ireturn, 1) := by decide +kernel
theorem dL_kept_16 : decode cL_kept 16 = .ok (.iconst 0, 1) := by decide +kernel
theorem dL_kept_17 : decode cL_kept 17 = .ok (.ireturn, 1) := by decide +kernel
set_option maxRecDepth 20000 in
theorem ggL_asker_X6_asker : GoodIn wsL_asker wsX6_asker := goodIn_ca (goodIn_r _ [6, 7, 8, 9, 10, 11, 5, 12, 13, 14, 15, 16, 17, 18, 19, 20, 21, 22, 23, 24, 25, 26, 27, 28, 29, 30, 31, 32, 33, 34, 35, 36, 37, 38, 39, 40, 41, 42, 43, 44, 45, 46, 47, 48, 49, 50, 51] (by decide +kernel) (by decide +kernel)) (goodIn_sub (fun _ h => List.mem_cons_of_mem _ (List.mem_append_right _ h)) (by decide +kernel))
set_option maxRecDepth 20000 in
theorem gL_asker_X6_asker : GoodIn wsL_asker (wsV RL 56 RX6 yX6_asker wsX6_asker) := goodIn_app (goodIn_of _ (by decide +kernel)) ggL_asker_X6_asker
theorem dL_asker_0 : decode cL_asker 0 = .ok (.aload_n 3, 1) := by decide +kernel
theorem dL_asker_1 : decode cL_asker 1 = .ok (.iconst 0, 1) := by decide +kernel
theorem dL_asker_2 : decode cL_asker 2 = .ok (.aload_n 0, 1) := by decide +kernel
theorem dL_asker_3 : decode cL_asker 3 = .ok (.iload_n 1, 1) := by decide +kernel
theorem dL_asker_4 : decode cL_asker 4 = .ok (.iload_n 2, 1) := by decide +kernel
theorem dL_asker_5 : decode cL_asker 5 = .ok (.invokevirtual 56, 3) := by decide +kernel
theorem dL_asker_8 : decode cL_asker 8 = .ok (.i2l, 1) := by decide +kernel
theorem dL_asker_9 : decode cL_asker 9 = .ok (.lastore, 1) := by decide +kernel
theorem dL_asker_10 : decode cL_asker 10 = .ok (.goto 7, 3) := by decide +kernel
theorem dL_asker_13 : decode cL_asker 13 = .ok (.astore 4, 2) := by decide +kernel
theorem dL_asker_15 : decode cL_asker 15 = .ok (.iconst 1, 1) := by decide +kernel
theorem dL_asker_16 : decode cL_asker 16 = .ok (.ireturn, 1) := by decide +kernel
theorem dL_asker_17 : decode cL_asker 17 = .ok (.iconst 0, 1) := by decide +kernel
theorem dL_asker_18 : decode cL_asker 18 = .ok (.ireturn, 1) := by decide +kernel
set_option maxRecDepth 20000 in
theorem ggL_request_X6_request : GoodIn wsL_request wsX6_request := goodIn_ca (goodIn_r _ [6, 7, 8, 9, 10, 11, 5, 12, 13, 14, 15, 16, 17, 18, 19, 20, 21, 22, 23, 24, 25, 26, 27, 28, 29, 30, 31, 32, 33, 34, 35, 36, 37, 38, 39, 40, 41, 42, 43, 44, 45, 46, 47, 48] (by decide +kernel) (by decide +kernel)) (goodIn_sub (fun _ h => List.mem_cons_of_mem _ (List.mem_append_right _ h)) (by decide +kernel))
set_option maxRecDepth 20000 in
theorem gL_request_X6_request : GoodIn wsL_request (wsV RL 59 RX6 yX6_request wsX6_request) := goodIn_app (goodIn_of _ (by decide +kernel)) ggL_request_X6_request
theorem dL_request_0 : decode cL_request 0 = .ok (.aload_n 3, 1) := by decide +kernel
theorem dL_request_1 : decode cL_request 1 = .ok (.iconst 0, 1) := by decide +kernel
theorem dL_request_2 : decode cL_request 2 = .ok (.aload_n 0, 1) := by decide +kernel
theorem dL_request_3 : decode cL_request 3 = .ok (.iload_n 1, 1) := by decide +kernel
theorem dL_request_4 : decode cL_request 4 = .ok (.iload_n 2, 1) := by decide +kernel
theorem dL_request_5 : decode cL_request 5 = .ok (.invokevirtual 59, 3) := by decide +kernel
theorem dL_request_8 : decode cL_request 8 = .ok (.i2l, 1) := by decide +kernel
theorem dL_request_9 : decode cL_request 9 = .ok (.lastore, 1) := by decide +kernel
theorem dL_request_10 : decode cL_request 10 = .ok (.goto 7, 3) := by decide +kernel
theorem dL_request_13 : decode cL_request 13 = .ok (.astore 4, 2) := by decide +kernel
theorem dL_request_15 : decode cL_request 15 = .ok (.iconst 1, 1) := by decide +kernel
theorem dL_request_16 : decode cL_request 16 = .ok (.ireturn, 1) := by decide +kernel
theorem dL_request_17 : decode cL_request 17 = .ok (.iconst 0, 1) := by decide +kernel
theorem dL_request_18 : decode cL_request 18 = .ok (.ireturn, 1) := by decide +kernel
set_option maxRecDepth 20000 in
theorem ggL_result_X6_result : GoodIn wsL_result wsX6_result := goodIn_ca (goodIn_r _ [6, 7, 8, 9, 5, 10, 11, 12, 13, 14, 15, 16, 17, 18, 19, 20, 21, 22, 23, 24, 25, 26, 27, 28, 29, 30, 31, 32, 33, 34, 35, 36, 37, 38, 39, 40, 41, 42] (by decide +kernel) (by decide +kernel)) (goodIn_sub (fun _ h => List.mem_cons_of_mem _ (List.mem_append_right _ h)) (by decide +kernel))
set_option maxRecDepth 20000 in
theorem gL_result_X6_result : GoodIn wsL_result (wsV RL 62 RX6 yX6_result wsX6_result) := goodIn_app (goodIn_of _ (by decide +kernel)) ggL_result_X6_result
theorem dL_result_0 : decode cL_result 0 = .ok (.aload_n 2, 1) := by decide +kernel
theorem dL_result_1 : decode cL_result 1 = .ok (.iconst 0, 1) := by decide +kernel
theorem dL_result_2 : decode cL_result 2 = .ok (.aload_n 0, 1) := by decide +kernel
theorem dL_result_3 : decode cL_result 3 = .ok (.iload_n 1, 1) := by decide +kernel
theorem dL_result_4 : decode cL_result 4 = .ok (.invokevirtual 62, 3) := by decide +kernel
theorem dL_result_7 : decode cL_result 7 = .ok (.lastore, 1) := by decide +kernel
theorem dL_result_8 : decode cL_result 8 = .ok (.goto 6, 3) := by decide +kernel
theorem dL_result_11 : decode cL_result 11 = .ok (.astore_n 3, 1) := by decide +kernel
theorem dL_result_12 : decode cL_result 12 = .ok (.iconst 1, 1) := by decide +kernel
theorem dL_result_13 : decode cL_result 13 = .ok (.ireturn, 1) := by decide +kernel
theorem dL_result_14 : decode cL_result 14 = .ok (.iconst 0, 1) := by decide +kernel
theorem dL_result_15 : decode cL_result 15 = .ok (.ireturn, 1) := by decide +kernel
set_option maxRecDepth 20000 in
theorem ggL_law_X6_init : GoodIn wsL_law wsX6_init := goodIn_r _ [10, 11, 12, 13, 14, 15, 16, 17, 18, 19, 20, 21, 22, 23, 24, 25, 26, 27, 28, 29, 30, 31, 32, 33, 34, 35, 36, 37, 38, 39, 40, 41, 42, 43, 44, 45, 46, 47, 48, 49, 50, 51, 52, 53, 54, 55, 56, 57, 58, 59, 60, 61, 62, 63, 64, 65, 66, 67, 537, 538, 539, 491, 492, 493, 494, 495, 496, 497, 540, 541, 542, 543, 544, 545, 546, 547, 548, 549, 550, 551, 552, 553, 554, 555, 556] (by decide +kernel) (by decide +kernel)
set_option maxRecDepth 20000 in
theorem gL_law_X6_init : GoodIn wsL_law (wsX6_init) := ggL_law_X6_init
set_option maxRecDepth 20000 in
theorem ggL_law_X7_init : GoodIn wsL_law wsX7_init := goodIn_r _ [70, 71, 12, 13, 51, 72, 73, 74, 75, 76, 22, 77, 78, 6, 79, 80, 81, 82, 83, 84, 85, 86, 87, 88, 89, 90, 91, 92, 93, 94, 95, 96, 97, 98, 99, 100, 101, 102, 103, 104, 105, 106, 107, 498, 499, 500, 501, 502, 503, 504, 505, 506, 507, 508, 509, 510, 511, 512, 513, 514, 515, 516, 517, 518, 519, 520, 521, 522, 523, 524, 525, 526, 527, 528, 529, 530, 531, 532, 533, 534, 535, 536] (by decide +kernel) (by decide +kernel)
set_option maxRecDepth 20000 in
theorem gL_law_X7_init : GoodIn wsL_law (wsX7_init) := ggL_law_X7_init
set_option maxRecDepth 20000 in
theorem ggL_law_L_ask : GoodIn wsL_law wsL_ask := goodIn_ca (goodIn_ca (goodIn_r _ [111, 112, 113, 114, 115, 116, 2, 117, 25, 34, 28, 118, 119, 17, 29, 120, 121, 122, 123, 124, 125, 126, 127, 128, 129, 130, 131, 132, 12, 13, 133, 134, 135, 136, 137, 138, 139, 140, 141, 142, 143, 144, 145, 146, 147, 148, 149, 150, 151, 33, 152, 32, 153, 154, 63, 60, 491, 492, 493, 494, 495, 496, 497, 543, 544, 545, 546, 547, 557, 558, 559, 560, 561, 562, 563, 564, 565, 566, 567, 568, 569, 570, 571, 548, 549, 550, 551, 552, 553, 554, 555, 556] (by decide +kernel) (by decide +kernel)) (goodIn_sub (fun _ h => List.mem_append_left _ (List.mem_append_right _ h)) (by decide +kernel))) (goodIn_sub (fun _ h => List.mem_append_right _ h) (by decide +kernel))
set_option maxRecDepth 20000 in
theorem gL_law_L_ask : GoodIn wsL_law (va_wsS RL 72 yL_ask wsL_ask) := goodIn_app (goodIn_of _ (by decide +kernel)) ggL_law_L_ask
set_option maxRecDepth 20000 in
theorem ggL_law_X7_ask : GoodIn wsL_law wsX7_ask := goodIn_r _ [158, 159, 91, 160, 86, 99, 100, 101, 102, 103, 92, 93, 94, 95, 96, 97, 89, 87, 90, 88, 161, 162, 5, 163, 164, 165, 166, 167, 168, 169, 170, 171, 72, 73, 74, 75, 76, 77, 78, 79, 498, 499, 500, 501, 502, 503, 504, 505, 506, 507, 508, 509, 510, 511, 512, 513, 514, 515, 516, 517, 518, 519, 520, 521, 522, 523, 524, 525, 526, 527, 528, 529, 530, 531, 532, 533, 534, 535, 536] (by decide +kernel) (by decide +kernel)
set_option maxRecDepth 20000 in
theorem gL_law_X7_ask : GoodIn wsL_law (wsV RL 77 RX7 yX7_ask wsX7_ask) := goodIn_app (goodIn_of _ (by decide +kernel)) ggL_law_X7_ask
set_option maxRecDepth 20000 in
theorem ggL_law_X7_thrown : GoodIn wsL_law wsX7_thrown := goodIn_r _ [175, 159, 498, 499, 500, 501, 502, 503, 504, 505, 506, 507, 508, 509, 510, 511, 512, 513, 514, 515, 516, 517, 518, 519, 520, 521, 522, 523, 524, 525, 526, 527, 528, 529, 530, 531, 532, 533, 534, 535, 536] (by decide +kernel) (by decide +kernel)
set_option maxRecDepth 20000 in
theorem gL_law_X7_thrown : GoodIn wsL_law (wsV RL 78 RX7 yX7_thrown wsX7_thrown) := goodIn_app (goodIn_of _ (by decide +kernel)) ggL_law_X7_thrown
set_option maxRecDepth 20000 in
theorem ggL_law_L_give : GoodIn wsL_law wsL_give := goodIn_ca (goodIn_r _ [178, 112, 179, 180, 181, 2, 182, 25, 120, 121, 122, 123, 124, 183, 184, 185, 491, 492, 493, 494, 495, 496, 497, 543, 544, 545, 546, 547, 557, 558, 559, 560, 561, 562, 563, 564, 565, 566, 567, 568, 569, 570, 571] (by decide +kernel) (by decide +kernel)) (goodIn_sub (fun _ h => List.mem_append_left _ (List.mem_append_right _ h)) (by decide +kernel))
set_option maxRecDepth 20000 in
theorem gL_law_L_give : GoodIn wsL_law (va_wsS RL 82 yL_give wsL_give) := goodIn_app (goodIn_of _ (by decide +kernel)) ggL_law_L_give
set_option maxRecDepth 20000 in
theorem ggL_law_X7_give : GoodIn wsL_law wsX7_give := goodIn_r _ [189, 159, 91, 161, 162, 5, 163, 190, 191, 192, 193, 103, 498, 499, 500, 501, 502, 503, 504, 505, 506, 507, 508, 509, 510, 511, 512, 513, 514, 515, 516, 517, 518, 519, 520, 521, 522, 523, 524, 525, 526, 527, 528, 529, 530, 531, 532, 533, 534, 535, 536] (by decide +kernel) (by decide +kernel)
set_option maxRecDepth 20000 in
theorem gL_law_X7_give : GoodIn wsL_law (wsV RL 85 RX7 yX7_give wsX7_give) := goodIn_app (goodIn_of _ (by decide +kernel)) ggL_law_X7_give
set_option maxRecDepth 20000 in
theorem ggL_law_L_plan : GoodIn wsL_law wsL_plan := goodIn_ca (goodIn_ca (goodIn_r _ [196, 112, 113, 197, 198, 199, 2, 200, 25, 120, 121, 122, 123, 124, 125, 126, 127, 128, 129, 201, 202, 203, 204, 205, 206, 207, 491, 492, 493, 494, 495, 496, 497, 543, 544, 545, 546, 547] (by decide +kernel) (by decide +kernel)) (goodIn_sub (fun _ h => List.mem_append_left _ (List.mem_append_right _ h)) (by decide +kernel))) (goodIn_sub (fun _ h => List.mem_append_right _ h) (by decide +kernel))
set_option maxRecDepth 20000 in
theorem gL_law_L_plan : GoodIn wsL_law (va_wsS RL 86 yL_plan wsL_plan) := goodIn_app (goodIn_of _ (by decide +kernel)) ggL_law_L_plan
set_option maxRecDepth 20000 in
theorem ggL_law_X7_plan : GoodIn wsL_law wsX7_plan := goodIn_r _ [211, 159, 87, 88, 161, 162, 5, 163, 212, 213, 214, 498, 499, 500, 501, 502, 503, 504, 505, 506, 507, 508, 509, 510, 511, 512, 513, 514, 515, 516, 517, 518, 519, 520, 521, 522, 523, 524, 525, 526, 527, 528, 529, 530, 531, 532, 533, 534, 535, 536] (by decide +kernel) (by decide +kernel)
set_option maxRecDepth 20000 in
theorem gL_law_X7_plan : GoodIn wsL_law (wsV RL 89 RX7 yX7_plan wsX7_plan) := goodIn_app (goodIn_of _ (by decide +kernel)) ggL_law_X7_plan
set_option maxRecDepth 20000 in
theorem ggL_law_L_take : GoodIn wsL_law wsL_take := goodIn_ca (goodIn_r _ [217, 112, 218, 219, 220, 2, 221, 33, 120, 121, 122, 123, 124, 222, 223, 224, 225, 226, 32, 227, 228, 60, 63, 229, 230, 231, 232, 23, 17, 233, 234, 235, 236, 19, 237, 21, 238, 239, 44, 45, 240, 241, 242, 243, 244, 245, 246, 247, 152, 153, 154, 248, 249, 250, 251, 252, 253, 254, 255, 25, 256, 119, 257, 258, 143, 259, 260, 261, 144, 145, 262, 263, 264, 265, 266, 267, 268, 202, 203, 204, 205, 206, 207, 269, 270, 271, 136, 137, 146, 142, 272, 16, 273, 274, 38, 39, 40, 275, 276, 277, 278, 15, 279, 280, 281, 282, 283, 284, 35, 36, 37, 12, 13, 148, 149, 150, 151, 285, 286, 287, 288, 289, 290, 291, 46, 292, 293, 294, 295, 183, 184, 185, 296, 297, 298, 299, 300, 491, 492, 493, 494, 495, 496, 497, 548, 549, 550, 551, 552, 553, 554, 555, 556, 540, 541, 542, 557, 558, 559, 560, 561, 562, 563, 564, 565, 566, 567, 568, 569, 570, 571, 543, 544, 545, 546, 547, 537, 538, 539] (by decide +kernel) (by decide +kernel)) (goodIn_sub (fun _ h => List.mem_append_left _ (List.mem_append_right _ h)) (by decide +kernel))
set_option maxRecDepth 20000 in
theorem gL_law_L_take : GoodIn wsL_law (va_wsS RL 90 yL_take wsL_take) := goodIn_app (goodIn_of _ (by decide +kernel)) ggL_law_L_take
set_option maxRecDepth 20000 in
theorem ggL_law_X7_take : GoodIn wsL_law wsX7_take := goodIn_r _ [304, 159, 305, 306, 307, 5, 308, 171, 309, 310, 311, 312, 72, 73, 74, 75, 76, 77, 78, 79, 80, 313, 314, 315, 316, 317, 318, 319, 320, 99, 81, 82, 83, 84, 85, 167, 168, 169, 170, 321, 322, 323, 324, 325, 326, 327, 328, 91, 92, 93, 94, 95, 96, 97, 90, 89, 102, 212, 213, 214, 329, 330, 331, 332, 101, 100, 98, 333, 334, 335, 336, 337, 338, 339, 340, 103, 104, 105, 106, 107, 341, 342, 343, 344, 86, 190, 191, 192, 193, 498, 499, 500, 501, 502, 503, 504, 505, 506, 507, 508, 509, 510, 511, 512, 513, 514, 515, 516, 517, 518, 519, 520, 521, 522, 523, 524, 525, 526, 527, 528, 529, 530, 531, 532, 533, 534, 535, 536] (by decide +kernel) (by decide +kernel)
set_option maxRecDepth 20000 in
theorem gL_law_X7_take : GoodIn wsL_law (wsV RL 92 RX7 yX7_take wsX7_take) := goodIn_app (goodIn_of _ (by decide +kernel)) ggL_law_X7_take
set_option maxRecDepth 20000 in
theorem ggL_law_L_run : GoodIn wsL_law wsL_run := goodIn_ca (goodIn_r _ [347, 113, 348, 349, 350, 2, 351, 33, 125, 126, 127, 128, 129, 222, 223, 224, 225, 226, 32, 227, 228, 60, 63, 229, 230, 231, 232, 23, 17, 233, 234, 235, 236, 19, 237, 21, 238, 239, 44, 45, 240, 241, 242, 243, 244, 245, 246, 247, 152, 153, 154, 248, 249, 250, 251, 252, 253, 254, 255, 25, 256, 119, 257, 258, 143, 259, 260, 261, 144, 145, 262, 263, 264, 265, 266, 267, 268, 202, 203, 204, 205, 206, 207, 269, 270, 271, 136, 137, 146, 142, 272, 16, 273, 274, 38, 39, 40, 275, 276, 277, 278, 15, 279, 280, 281, 282, 283, 284, 35, 36, 37, 12, 13, 148, 149, 150, 151, 285, 286, 287, 288, 289, 290, 291, 46, 292, 293, 294, 295, 183, 184, 185, 296, 297, 298, 299, 300, 491, 492, 493, 494, 495, 496, 497, 548, 549, 550, 551, 552, 553, 554, 555, 556, 540, 541, 542, 557, 558, 559, 560, 561, 562, 563, 564, 565, 566, 567, 568, 569, 570, 571, 543, 544, 545, 546, 547, 537, 538, 539] (by decide +kernel) (by decide +kernel)) (goodIn_sub (fun _ h => List.mem_append_right _ h) (by decide +kernel))
set_option maxRecDepth 20000 in
theorem gL_law_L_run : GoodIn wsL_law (va_wsS RL 93 yL_run wsL_run) := goodIn_app (goodIn_of _ (by decide +kernel)) ggL_law_L_run
set_option maxRecDepth 20000 in
theorem ggL_law_X7_run : GoodIn wsL_law wsX7_run := goodIn_r _ [355, 159, 171, 309, 310, 311, 5, 312, 72, 73, 74, 75, 76, 77, 78, 79, 80, 313, 314, 315, 316, 317, 318, 319, 320, 99, 81, 82, 83, 84, 85, 167, 168, 169, 170, 321, 322, 323, 324, 325, 326, 327, 328, 91, 92, 93, 94, 95, 96, 97, 90, 89, 102, 212, 213, 214, 329, 330, 331, 332, 101, 100, 98, 333, 334, 335, 336, 337, 338, 339, 340, 103, 104, 105, 106, 107, 341, 342, 343, 344, 86, 190, 191, 192, 193, 498, 499, 500, 501, 502, 503, 504, 505, 506, 507, 508, 509, 510, 511, 512, 513, 514, 515, 516, 517, 518, 519, 520, 521, 522, 523, 524, 525, 526, 527, 528, 529, 530, 531, 532, 533, 534, 535, 536] (by decide +kernel) (by decide +kernel)
set_option maxRecDepth 20000 in
theorem gL_law_X7_run : GoodIn wsL_law (wsV RL 95 RX7 yX7_run wsX7_run) := goodIn_app (goodIn_of _ (by decide +kernel)) ggL_law_X7_run
set_option maxRecDepth 20000 in
theorem ggL_law_L_lose : GoodIn wsL_law wsL_lose := goodIn_ca (goodIn_r _ [358, 112, 359, 360, 361, 2, 362, 33, 120, 121, 122, 123, 124, 226, 32, 227, 228, 60, 63, 491, 492, 493, 494, 495, 496, 497, 548, 549, 550, 551, 552, 553, 554, 555, 556] (by decide +kernel) (by decide +kernel)) (goodIn_sub (fun _ h => List.mem_append_left _ (List.mem_append_right _ h)) (by decide +kernel))
set_option maxRecDepth 20000 in
theorem gL_law_L_lose : GoodIn wsL_law (va_wsS RL 96 yL_lose wsL_lose) := goodIn_app (goodIn_of _ (by decide +kernel)) ggL_law_L_lose
set_option maxRecDepth 20000 in
theorem ggL_law_X7_lose : GoodIn wsL_law wsX7_lose := goodIn_r _ [366, 159, 72, 305, 306, 307, 5, 308, 171, 313, 314, 315, 316, 73, 74, 75, 76, 77, 78, 79, 498, 499, 500, 501, 502, 503, 504, 505, 506, 507, 508, 509, 510, 511, 512, 513, 514, 515, 516, 517, 518, 519, 520, 521, 522, 523, 524, 525, 526, 527, 528, 529, 530, 531, 532, 533, 534, 535, 536] (by decide +kernel) (by decide +kernel)
set_option maxRecDepth 20000 in
theorem gL_law_X7_lose : GoodIn wsL_law (wsV RL 98 RX7 yX7_lose wsX7_lose) := goodIn_app (goodIn_of _ (by decide +kernel)) ggL_law_X7_lose
set_option maxRecDepth 20000 in
theorem ggL_law_L_twice : GoodIn wsL_law wsL_twice := goodIn_ca (goodIn_r _ [369, 112, 370, 371, 372, 2, 373, 33, 120, 121, 122, 123, 124, 152, 32, 153, 154, 63, 60, 491, 492, 493, 494, 495, 496, 497, 548, 549, 550, 551, 552, 553, 554, 555, 556] (by decide +kernel) (by decide +kernel)) (goodIn_sub (fun _ h => List.mem_append_left _ (List.mem_append_right _ h)) (by decide +kernel))
set_option maxRecDepth 20000 in
theorem gL_law_L_twice : GoodIn wsL_law (va_wsS RL 99 yL_twice wsL_twice) := goodIn_app (goodIn_of _ (by decide +kernel)) ggL_law_L_twice
set_option maxRecDepth 20000 in
theorem ggL_law_X7_twice : GoodIn wsL_law wsX7_twice := goodIn_r _ [377, 159, 171, 72, 73, 74, 75, 76, 77, 78, 79, 305, 306, 307, 5, 308, 167, 168, 169, 170, 498, 499, 500, 501, 502, 503, 504, 505, 506, 507, 508, 509, 510, 511, 512, 513, 514, 515, 516, 517, 518, 519, 520, 521, 522, 523, 524, 525, 526, 527, 528, 529, 530, 531, 532, 533, 534, 535, 536] (by decide +kernel) (by decide +kernel)
set_option maxRecDepth 20000 in
theorem gL_law_X7_twice : GoodIn wsL_law (wsV RL 101 RX7 yX7_twice wsX7_twice) := goodIn_app (goodIn_of _ (by decide +kernel)) ggL_law_X7_twice
set_option maxRecDepth 20000 in
theorem ggL_law_L_down : GoodIn wsL_law wsL_down := goodIn_ca (goodIn_r _ [380, 112, 381, 382, 383, 2, 384, 23, 120, 121, 122, 123, 124, 491, 492, 493, 494, 495, 496, 497] (by decide +kernel) (by decide +kernel)) (goodIn_sub (fun _ h => List.mem_append_left _ (List.mem_append_right _ h)) (by decide +kernel))
set_option maxRecDepth 20000 in
theorem gL_law_L_down : GoodIn wsL_law (va_wsS RL 102 yL_down wsL_down) := goodIn_app (goodIn_of _ (by decide +kernel)) ggL_law_L_down
set_option maxRecDepth 20000 in
theorem ggL_law_X7_down : GoodIn wsL_law wsX7_down := goodIn_r _ [388, 159, 80, 389, 390, 5, 391, 498, 499, 500, 501, 502, 503, 504, 505, 506, 507, 508, 509, 510, 511, 512, 513, 514, 515, 516, 517, 518, 519, 520, 521, 522, 523, 524, 525, 526, 527, 528, 529, 530, 531, 532, 533, 534, 535, 536] (by decide +kernel) (by decide +kernel)
set_option maxRecDepth 20000 in
theorem gL_law_X7_down : GoodIn wsL_law (wsV RL 105 RX7 yX7_down wsX7_down) := goodIn_app (goodIn_of _ (by decide +kernel)) ggL_law_X7_down
set_option maxRecDepth 20000 in
theorem ggL_law_L_copy : GoodIn wsL_law wsL_copy := goodIn_ca (goodIn_r _ [394, 112, 395, 396, 397, 2, 398, 120, 121, 122, 123, 124, 233, 234, 235, 236, 19, 399, 21, 400, 401, 45, 46, 44, 240, 241, 242, 243, 491, 492, 493, 494, 495, 496, 497, 540, 541, 542] (by decide +kernel) (by decide +kernel)) (goodIn_sub (fun _ h => List.mem_append_left _ (List.mem_append_right _ h)) (by decide +kernel))
set_option maxRecDepth 20000 in
theorem gL_law_L_copy : GoodIn wsL_law (va_wsS RL 106 yL_copy wsL_copy) := goodIn_app (goodIn_of _ (by decide +kernel)) ggL_law_L_copy
set_option maxRecDepth 20000 in
theorem ggL_law_X7_copy : GoodIn wsL_law wsX7_copy := goodIn_r _ [405, 159, 82, 81, 83, 84, 85, 389, 390, 5, 391, 498, 499, 500, 501, 502, 503, 504, 505, 506, 507, 508, 509, 510, 511, 512, 513, 514, 515, 516, 517, 518, 519, 520, 521, 522, 523, 524, 525, 526, 527, 528, 529, 530, 531, 532, 533, 534, 535, 536] (by decide +kernel) (by decide +kernel)
set_option maxRecDepth 20000 in
theorem gL_law_X7_copy : GoodIn wsL_law (wsV RL 109 RX7 yX7_copy wsX7_copy) := goodIn_app (goodIn_of _ (by decide +kernel)) ggL_law_X7_copy
set_option maxRecDepth 20000 in
theorem ggL_law_X6_messages : GoodIn wsL_law wsX6_messages := goodIn_r _ [409, 33, 491, 492, 493, 494, 495, 496, 497, 548, 549] (by decide +kernel) (by decide +kernel)
set_option maxRecDepth 20000 in
theorem gL_law_X6_messages : GoodIn wsL_law (wsV RL 110 RX6 yX6_messages wsX6_messages) := goodIn_app (goodIn_of _ (by decide +kernel)) ggL_law_X6_messages
set_option maxRecDepth 20000 in
theorem ggL_law_X7_messages : GoodIn wsL_law wsX7_messages := goodIn_r _ [413, 159, 171, 498, 499, 500, 501, 502, 503, 504, 505, 506, 507, 508, 509, 510, 511, 512, 513, 514, 515, 516, 517, 518, 519, 520, 521, 522, 523, 524, 525, 526, 527, 528, 529, 530, 531, 532, 533, 534, 535, 536] (by decide +kernel) (by decide +kernel)
set_option maxRecDepth 20000 in
theorem gL_law_X7_messages : GoodIn wsL_law (wsV RL 113 RX7 yX7_messages wsX7_messages) := goodIn_app (goodIn_of _ (by decide +kernel)) ggL_law_X7_messages
set_option maxRecDepth 20000 in
theorem ggL_law_L_message : GoodIn wsL_law wsL_message := goodIn_ca (goodIn_r _ [416, 112, 417, 418, 419, 2, 420, 123, 124, 33, 120, 121, 122, 421, 16, 422, 423, 38, 39, 491, 492, 493, 494, 495, 496, 497, 548, 549, 550, 551, 552, 553, 554, 555, 556, 537, 538, 539] (by decide +kernel) (by decide +kernel)) (goodIn_sub (fun _ h => List.mem_append_left _ (List.mem_append_right _ h)) (by decide +kernel))
set_option maxRecDepth 20000 in
theorem gL_law_L_message : GoodIn wsL_law (va_wsS RL 114 yL_message wsL_message) := goodIn_app (goodIn_of _ (by decide +kernel)) ggL_law_L_message
set_option maxRecDepth 20000 in
theorem ggL_law_X7_message : GoodIn wsL_law wsX7_message := goodIn_r _ [427, 159, 72, 73, 74, 75, 76, 77, 78, 305, 306, 307, 5, 308, 171, 498, 499, 500, 501, 502, 503, 504, 505, 506, 507, 508, 509, 510, 511, 512, 513, 514, 515, 516, 517, 518, 519, 520, 521, 522, 523, 524, 525, 526, 527, 528, 529, 530, 531, 532, 533, 534, 535, 536] (by decide +kernel) (by decide +kernel)
set_option maxRecDepth 20000 in
theorem gL_law_X7_message : GoodIn wsL_law (wsV RL 116 RX7 yX7_message wsX7_message) := goodIn_app (goodIn_of _ (by decide +kernel)) ggL_law_X7_message
set_option maxRecDepth 20000 in
theorem ggL_law_L_keeper : GoodIn wsL_law wsL_keeper := goodIn_ca (goodIn_r _ [430, 112, 431, 432, 433, 2, 434, 123, 124, 120, 121, 122, 233, 234, 235, 236, 19, 421, 16, 422, 423, 38, 39, 540, 541, 542, 491, 492, 493, 494, 495, 496, 497, 537, 538, 539] (by decide +kernel) (by decide +kernel)) (goodIn_sub (fun _ h => List.mem_append_left _ (List.mem_append_right _ h)) (by decide +kernel))
set_option maxRecDepth 20000 in
theorem gL_law_L_keeper : GoodIn wsL_law (va_wsS RL 117 yL_keeper wsL_keeper) := goodIn_app (goodIn_of _ (by decide +kernel)) ggL_law_L_keeper
set_option maxRecDepth 20000 in
theorem ggL_law_X7_keeper : GoodIn wsL_law wsX7_keeper := goodIn_r _ [438, 159, 81, 82, 83, 84, 389, 390, 5, 391, 164, 165, 166, 498, 499, 500, 501, 502, 503, 504, 505, 506, 507, 508, 509, 510, 511, 512, 513, 514, 515, 516, 517, 518, 519, 520, 521, 522, 523, 524, 525, 526, 527, 528, 529, 530, 531, 532, 533, 534, 535, 536] (by decide +kernel) (by decide +kernel)
set_option maxRecDepth 20000 in
theorem gL_law_X7_keeper : GoodIn wsL_law (wsV RL 120 RX7 yX7_keeper wsX7_keeper) := goodIn_app (goodIn_of _ (by decide +kernel)) ggL_law_X7_keeper
set_option maxRecDepth 20000 in
theorem ggL_law_L_kept : GoodIn wsL_law wsL_kept := goodIn_ca (goodIn_r _ [441, 112, 442, 443, 444, 2, 445, 120, 121, 122, 123, 124, 233, 234, 235, 236, 19, 540, 541, 542, 537, 538, 539, 491, 492, 493, 494, 495, 496, 497] (by decide +kernel) (by decide +kernel)) (goodIn_sub (fun _ h => List.mem_append_left _ (List.mem_append_right _ h)) (by decide +kernel))
set_option maxRecDepth 20000 in
theorem gL_law_L_kept : GoodIn wsL_law (va_wsS RL 121 yL_kept wsL_kept) := goodIn_app (goodIn_of _ (by decide +kernel)) ggL_law_L_kept
set_option maxRecDepth 20000 in
theorem ggL_law_X7_kept : GoodIn wsL_law wsX7_kept := goodIn_r _ [449, 159, 83, 85, 389, 390, 5, 391, 164, 165, 166, 498, 499, 500, 501, 502, 503, 504, 505, 506, 507, 508, 509, 510, 511, 512, 513, 514, 515, 516, 517, 518, 519, 520, 521, 522, 523, 524, 525, 526, 527, 528, 529, 530, 531, 532, 533, 534, 535, 536] (by decide +kernel) (by decide +kernel)
set_option maxRecDepth 20000 in
theorem gL_law_X7_kept : GoodIn wsL_law (wsV RL 123 RX7 yX7_kept wsX7_kept) := goodIn_app (goodIn_of _ (by decide +kernel)) ggL_law_X7_kept
set_option maxRecDepth 20000 in
theorem ggL_law_L_asker : GoodIn wsL_law wsL_asker := goodIn_ca (goodIn_r _ [452, 112, 453, 454, 455, 2, 456, 123, 124, 25, 120, 121, 122, 265, 119, 266, 267, 143, 268, 202, 203, 204, 205, 206, 207, 491, 492, 493, 494, 495, 496, 497, 543, 544, 545, 546, 547, 557, 558, 559, 560, 561, 562, 563, 564, 565, 566, 567, 568, 569, 570, 571] (by decide +kernel) (by decide +kernel)) (goodIn_sub (fun _ h => List.mem_append_left _ (List.mem_append_right _ h)) (by decide +kernel))
set_option maxRecDepth 20000 in
theorem gL_law_L_asker : GoodIn wsL_law (va_wsS RL 124 yL_asker wsL_asker) := goodIn_app (goodIn_of _ (by decide +kernel)) ggL_law_L_asker
set_option maxRecDepth 20000 in
theorem ggL_law_X7_asker : GoodIn wsL_law wsX7_asker := goodIn_r _ [460, 159, 91, 86, 92, 93, 161, 162, 5, 163, 212, 213, 214, 498, 499, 500, 501, 502, 503, 504, 505, 506, 507, 508, 509, 510, 511, 512, 513, 514, 515, 516, 517, 518, 519, 520, 521, 522, 523, 524, 525, 526, 527, 528, 529, 530, 531, 532, 533, 534, 535, 536] (by decide +kernel) (by decide +kernel)
set_option maxRecDepth 20000 in
theorem gL_law_X7_asker : GoodIn wsL_law (wsV RL 126 RX7 yX7_asker wsX7_asker) := goodIn_app (goodIn_of _ (by decide +kernel)) ggL_law_X7_asker
set_option maxRecDepth 20000 in
theorem ggL_law_L_request : GoodIn wsL_law wsL_request := goodIn_ca (goodIn_r _ [463, 112, 464, 465, 466, 2, 467, 123, 124, 468, 469, 470, 471, 34, 29, 120, 121, 122, 421, 16, 422, 423, 38, 39, 557, 558, 559, 560, 561, 562, 563, 564, 565, 566, 567, 568, 569, 570, 571, 491, 492, 493, 494, 495, 496, 497, 537, 538, 539] (by decide +kernel) (by decide +kernel)) (goodIn_sub (fun _ h => List.mem_append_left _ (List.mem_append_right _ h)) (by decide +kernel))
set_option maxRecDepth 20000 in
theorem gL_law_L_request : GoodIn wsL_law (va_wsS RL 127 yL_request wsL_request) := goodIn_app (goodIn_of _ (by decide +kernel)) ggL_law_L_request
set_option maxRecDepth 20000 in
theorem ggL_law_X7_request : GoodIn wsL_law wsX7_request := goodIn_r _ [475, 159, 103, 104, 105, 106, 102, 476, 477, 478, 5, 479, 160, 498, 499, 500, 501, 502, 503, 504, 505, 506, 507, 508, 509, 510, 511, 512, 513, 514, 515, 516, 517, 518, 519, 520, 521, 522, 523, 524, 525, 526, 527, 528, 529, 530, 531, 532, 533, 534, 535, 536] (by decide +kernel) (by decide +kernel)
set_option maxRecDepth 20000 in
theorem gL_law_X7_request : GoodIn wsL_law (wsV RL 129 RX7 yX7_request wsX7_request) := goodIn_app (goodIn_of _ (by decide +kernel)) ggL_law_X7_request
set_option maxRecDepth 20000 in
theorem ggL_law_L_result : GoodIn wsL_law wsL_result := goodIn_ca (goodIn_r _ [482, 112, 483, 484, 485, 2, 486, 468, 469, 470, 471, 123, 124, 34, 29, 120, 121, 122, 557, 558, 559, 560, 561, 562, 563, 564, 565, 566, 567, 568, 569, 570, 571, 537, 538, 539, 491, 492, 493, 494, 495, 496, 497] (by decide +kernel) (by decide +kernel)) (goodIn_sub (fun _ h => List.mem_append_left _ (List.mem_append_right _ h)) (by decide +kernel))
set_option maxRecDepth 20000 in
theorem gL_law_L_result : GoodIn wsL_law (va_wsS RL 130 yL_result wsL_result) := goodIn_app (goodIn_of _ (by decide +kernel)) ggL_law_L_result
set_option maxRecDepth 20000 in
theorem ggL_law_X7_result : GoodIn wsL_law wsX7_result := goodIn_r _ [490, 159, 103, 105, 107, 476, 477, 478, 5, 479, 160, 498, 499, 500, 501, 502, 503, 504, 505, 506, 507, 508, 509, 510, 511, 512, 513, 514, 515, 516, 517, 518, 519, 520, 521, 522, 523, 524, 525, 526, 527, 528, 529, 530, 531, 532, 533, 534, 535, 536] (by decide +kernel) (by decide +kernel)
set_option maxRecDepth 20000 in
theorem gL_law_X7_result : GoodIn wsL_law (wsV RL 132 RX7 yX7_result wsX7_result) := goodIn_app (goodIn_of _ (by decide +kernel)) ggL_law_X7_result
theorem dL_law_0 : decode cL_law 0 = .ok (.new 8, 3) := by decide +kernel
theorem dL_law_3 : decode cL_law 3 = .ok (.dup, 1) := by decide +kernel
theorem dL_law_4 : decode cL_law 4 = .ok (.invokespecial 66, 3) := by decide +kernel
theorem dL_law_7 : decode cL_law 7 = .ok (.astore_n 1, 1) := by decide +kernel
theorem dL_law_8 : decode cL_law 8 = .ok (.new 67, 3) := by decide +kernel
theorem dL_law_11 : decode cL_law 11 = .ok (.dup, 1) := by decide +kernel
theorem dL_law_12 : decode cL_law 12 = .ok (.invokespecial 69, 3) := by decide +kernel
theorem dL_law_15 : decode cL_law 15 = .ok (.astore_n 2, 1) := by decide +kernel
theorem dL_law_16 : decode cL_law 16 = .ok (.iconst 1, 1) := by decide +kernel
theorem dL_law_17 : decode cL_law 17 = .ok (.newarray .long, 2) := by decide +kernel
theorem dL_law_19 : decode cL_law 19 = .ok (.astore_n 3, 1) := by decide +kernel
theorem dL_law_20 : decode cL_law 20 = .ok (.iconst 0, 1) := by decide +kernel
theorem dL_law_21 : decode cL_law 21 = .ok (.istore 4, 2) := by decide +kernel
theorem dL_law_23 : decode cL_law 23 = .ok (.iload 4, 2) := by decide +kernel
theorem dL_law_25 : decode cL_law 25 = .ok (.aload_n 0, 1) := by decide +kernel
theorem dL_law_26 : decode cL_law 26 = .ok (.arraylength, 1) := by decide +kernel
theorem dL_law_27 : decode cL_law 27 = .ok (.bipush 6, 2) := by decide +kernel
theorem dL_law_29 : decode cL_law 29 = .ok (.isub, 1) := by decide +kernel
theorem dL_law_30 : decode cL_law 30 = .ok (.if_icmp .gt 1150, 3) := by decide +kernel
theorem dL_law_33 : decode cL_law 33 = .ok (.aload_n 0, 1) := by decide +kernel
theorem dL_law_34 : decode cL_law 34 = .ok (.iload 4, 2) := by decide +kernel
theorem dL_law_36 : decode cL_law 36 = .ok (.iaload, 1) := by decide +kernel
theorem dL_law_37 : decode cL_law 37 = .ok (.bipush 15, 2) := by decide +kernel
theorem dL_law_39 : decode cL_law 39 = .ok (.iand, 1) := by decide +kernel
theorem dL_law_40 : decode cL_law 40 = .ok (.tableswitch 1134 0 15 #[80, 204, 260, 332, 388, 444, 500, 556, 647, 715, 728, 796, 876, 943, 1011, 1079], 80) := by decide +kernel
theorem dL_law_120 : decode cL_law 120 = .ok (.aload_n 1, 1) := by decide +kernel
theorem dL_law_121 : decode cL_law 121 = .ok (.aload_n 0, 1) := by decide +kernel
theorem dL_law_122 : decode cL_law 122 = .ok (.iload 4, 2) := by decide +kernel
theorem dL_law_124 : decode cL_law 124 = .ok (.iconst 1, 1) := by decide +kernel
theorem dL_law_125 : decode cL_law 125 = .ok (.iadd, 1) := by decide +kernel
theorem dL_law_126 : decode cL_law 126 = .ok (.iaload, 1) := by decide +kernel
theorem dL_law_127 : decode cL_law 127 = .ok (.aload_n 0, 1) := by decide +kernel
theorem dL_law_128 : decode cL_law 128 = .ok (.iload 4, 2) := by decide +kernel
theorem dL_law_130 : decode cL_law 130 = .ok (.iconst 2, 1) := by decide +kernel
theorem dL_law_131 : decode cL_law 131 = .ok (.iadd, 1) := by decide +kernel
theorem dL_law_132 : decode cL_law 132 = .ok (.iaload, 1) := by decide +kernel
theorem dL_law_133 : decode cL_law 133 = .ok (.aload_n 0, 1) := by decide +kernel
theorem dL_law_134 : decode cL_law 134 = .ok (.iload 4, 2) := by decide +kernel
theorem dL_law_136 : decode cL_law 136 = .ok (.iconst 3, 1) := by decide +kernel
theorem dL_law_137 : decode cL_law 137 = .ok (.iadd, 1) := by decide +kernel
theorem dL_law_138 : decode cL_law 138 = .ok (.iaload, 1) := by decide +kernel
theorem dL_law_139 : decode cL_law 139 = .ok (.aload_n 0, 1) := by decide +kernel
theorem dL_law_140 : decode cL_law 140 = .ok (.iload 4, 2) := by decide +kernel
theorem dL_law_142 : decode cL_law 142 = .ok (.iconst 4, 1) := by decide +kernel
theorem dL_law_143 : decode cL_law 143 = .ok (.iadd, 1) := by decide +kernel
theorem dL_law_144 : decode cL_law 144 = .ok (.iaload, 1) := by decide +kernel
theorem dL_law_145 : decode cL_law 145 = .ok (.i2l, 1) := by decide +kernel
theorem dL_law_146 : decode cL_law 146 = .ok (.bipush 32, 2) := by decide +kernel
theorem dL_law_148 : decode cL_law 148 = .ok (.lshl, 1) := by decide +kernel
theorem dL_law_149 : decode cL_law 149 = .ok (.aload_n 0, 1) := by decide +kernel
theorem dL_law_150 : decode cL_law 150 = .ok (.iload 4, 2) := by decide +kernel
theorem dL_law_152 : decode cL_law 152 = .ok (.iconst 5, 1) := by decide +kernel
theorem dL_law_153 : decode cL_law 153 = .ok (.iadd, 1) := by decide +kernel
theorem dL_law_154 : decode cL_law 154 = .ok (.iaload, 1) := by decide +kernel
theorem dL_law_155 : decode cL_law 155 = .ok (.i2l, 1) := by decide +kernel
theorem dL_law_156 : decode cL_law 156 = .ok (.ldc2_w 70, 3) := by decide +kernel
theorem dL_law_159 : decode cL_law 159 = .ok (.land, 1) := by decide +kernel
theorem dL_law_160 : decode cL_law 160 = .ok (.lor, 1) := by decide +kernel
theorem dL_law_161 : decode cL_law 161 = .ok (.aload_n 3, 1) := by decide +kernel
theorem dL_law_162 : decode cL_law 162 = .ok (.invokestatic 72, 3) := by decide +kernel
theorem dL_law_165 : decode cL_law 165 = .ok (.istore 5, 2) := by decide +kernel
theorem dL_law_167 : decode cL_law 167 = .ok (.aload_n 2, 1) := by decide +kernel
theorem dL_law_168 : decode cL_law 168 = .ok (.aload_n 0, 1) := by decide +kernel
theorem dL_law_169 : decode cL_law 169 = .ok (.iload 4, 2) := by decide +kernel
theorem dL_law_171 : decode cL_law 171 = .ok (.iconst 1, 1) := by decide +kernel
theorem dL_law_172 : decode cL_law 172 = .ok (.iadd, 1) := by decide +kernel
theorem dL_law_173 : decode cL_law 173 = .ok (.iaload, 1) := by decide +kernel
theorem dL_law_174 : decode cL_law 174 = .ok (.aload_n 0, 1) := by decide +kernel
theorem dL_law_175 : decode cL_law 175 = .ok (.iload 4, 2) := by decide +kernel
theorem dL_law_177 : decode cL_law 177 = .ok (.iconst 2, 1) := by decide +kernel
theorem dL_law_178 : decode cL_law 178 = .ok (.iadd, 1) := by decide +kernel
theorem dL_law_179 : decode cL_law 179 = .ok (.iaload, 1) := by decide +kernel
theorem dL_law_180 : decode cL_law 180 = .ok (.aload_n 0, 1) := by decide +kernel
theorem dL_law_181 : decode cL_law 181 = .ok (.iload 4, 2) := by decide +kernel
theorem dL_law_183 : decode cL_law 183 = .ok (.iconst 3, 1) := by decide +kernel
theorem dL_law_184 : decode cL_law 184 = .ok (.iadd, 1) := by decide +kernel
theorem dL_law_185 : decode cL_law 185 = .ok (.iaload, 1) := by decide +kernel
theorem dL_law_186 : decode cL_law 186 = .ok (.aload_n 0, 1) := by decide +kernel
theorem dL_law_187 : decode cL_law 187 = .ok (.iload 4, 2) := by decide +kernel
theorem dL_law_189 : decode cL_law 189 = .ok (.iconst 4, 1) := by decide +kernel
theorem dL_law_190 : decode cL_law 190 = .ok (.iadd, 1) := by decide +kernel
theorem dL_law_191 : decode cL_law 191 = .ok (.iaload, 1) := by decide +kernel
theorem dL_law_192 : decode cL_law 192 = .ok (.i2l, 1) := by decide +kernel
theorem dL_law_193 : decode cL_law 193 = .ok (.bipush 32, 2) := by decide +kernel
theorem dL_law_195 : decode cL_law 195 = .ok (.lshl, 1) := by decide +kernel
theorem dL_law_196 : decode cL_law 196 = .ok (.aload_n 0, 1) := by decide +kernel
theorem dL_law_197 : decode cL_law 197 = .ok (.iload 4, 2) := by decide +kernel
theorem dL_law_199 : decode cL_law 199 = .ok (.iconst 5, 1) := by decide +kernel
theorem dL_law_200 : decode cL_law 200 = .ok (.iadd, 1) := by decide +kernel
theorem dL_law_201 : decode cL_law 201 = .ok (.iaload, 1) := by decide +kernel
theorem dL_law_202 : decode cL_law 202 = .ok (.i2l, 1) := by decide +kernel
theorem dL_law_203 : decode cL_law 203 = .ok (.ldc2_w 70, 3) := by decide +kernel
theorem dL_law_206 : decode cL_law 206 = .ok (.land, 1) := by decide +kernel
theorem dL_law_207 : decode cL_law 207 = .ok (.lor, 1) := by decide +kernel
theorem dL_law_208 : decode cL_law 208 = .ok (.invokevirtual 77, 3) := by decide +kernel
theorem dL_law_211 : decode cL_law 211 = .ok (.istore 6, 2) := by decide +kernel
theorem dL_law_213 : decode cL_law 213 = .ok (.aload_n 2, 1) := by decide +kernel
theorem dL_law_214 : decode cL_law 214 = .ok (.invokevirtual 78, 3) := by decide +kernel
theorem dL_law_217 : decode cL_law 217 = .ok (.iload 5, 2) := by decide +kernel
theorem dL_law_219 : decode cL_law 219 = .ok (.if_icmp .eq 5, 3) := by decide +kernel
theorem dL_law_222 : decode cL_law 222 = .ok (.iconst 0, 1) := by decide +kernel
theorem dL_law_223 : decode cL_law 223 = .ok (.ireturn, 1) := by decide +kernel
theorem dL_law_224 : decode cL_law 224 = .ok (.iload 5, 2) := by decide +kernel
theorem dL_law_226 : decode cL_law 226 = .ok (.ifCond .ne 15, 3) := by decide +kernel
theorem dL_law_229 : decode cL_law 229 = .ok (.aload_n 3, 1) := by decide +kernel
theorem dL_law_230 : decode cL_law 230 = .ok (.iconst 0, 1) := by decide +kernel
theorem dL_law_231 : decode cL_law 231 = .ok (.laload, 1) := by decide +kernel
theorem dL_law_232 : decode cL_law 232 = .ok (.iload 6, 2) := by decide +kernel
theorem dL_law_234 : decode cL_law 234 = .ok (.i2l, 1) := by decide +kernel
theorem dL_law_235 : decode cL_law 235 = .ok (.lcmp, 1) := by decide +kernel
theorem dL_law_236 : decode cL_law 236 = .ok (.ifCond .eq 5, 3) := by decide +kernel
theorem dL_law_239 : decode cL_law 239 = .ok (.iconst 0, 1) := by decide +kernel
theorem dL_law_240 : decode cL_law 240 = .ok (.ireturn, 1) := by decide +kernel
theorem dL_law_241 : decode cL_law 241 = .ok (.goto 933, 3) := by decide +kernel
theorem dL_law_244 : decode cL_law 244 = .ok (.aload_n 1, 1) := by decide +kernel
theorem dL_law_245 : decode cL_law 245 = .ok (.aload_n 0, 1) := by decide +kernel
theorem dL_law_246 : decode cL_law 246 = .ok (.iload 4, 2) := by decide +kernel
theorem dL_law_248 : decode cL_law 248 = .ok (.iconst 1, 1) := by decide +kernel
theorem dL_law_249 : decode cL_law 249 = .ok (.iadd, 1) := by decide +kernel
theorem dL_law_250 : decode cL_law 250 = .ok (.iaload, 1) := by decide +kernel
theorem dL_law_251 : decode cL_law 251 = .ok (.aload_n 3, 1) := by decide +kernel
theorem dL_law_252 : decode cL_law 252 = .ok (.invokestatic 82, 3) := by decide +kernel
theorem dL_law_255 : decode cL_law 255 = .ok (.istore 5, 2) := by decide +kernel
theorem dL_law_257 : decode cL_law 257 = .ok (.aload_n 2, 1) := by decide +kernel
theorem dL_law_258 : decode cL_law 258 = .ok (.aload_n 0, 1) := by decide +kernel
theorem dL_law_259 : decode cL_law 259 = .ok (.iload 4, 2) := by decide +kernel
theorem dL_law_261 : decode cL_law 261 = .ok (.iconst 1, 1) := by decide +kernel
theorem dL_law_262 : decode cL_law 262 = .ok (.iadd, 1) := by decide +kernel
theorem dL_law_263 : decode cL_law 263 = .ok (.iaload, 1) := by decide +kernel
theorem dL_law_264 : decode cL_law 264 = .ok (.invokevirtual 85, 3) := by decide +kernel
theorem dL_law_267 : decode cL_law 267 = .ok (.istore 6, 2) := by decide +kernel
theorem dL_law_269 : decode cL_law 269 = .ok (.aload_n 2, 1) := by decide +kernel
theorem dL_law_270 : decode cL_law 270 = .ok (.invokevirtual 78, 3) := by decide +kernel
theorem dL_law_273 : decode cL_law 273 = .ok (.iload 5, 2) := by decide +kernel
theorem dL_law_275 : decode cL_law 275 = .ok (.if_icmp .eq 5, 3) := by decide +kernel
theorem dL_law_278 : decode cL_law 278 = .ok (.iconst 0, 1) := by decide +kernel
theorem dL_law_279 : decode cL_law 279 = .ok (.ireturn, 1) := by decide +kernel
theorem dL_law_280 : decode cL_law 280 = .ok (.iload 5, 2) := by decide +kernel
theorem dL_law_282 : decode cL_law 282 = .ok (.ifCond .ne 15, 3) := by decide +kernel
theorem dL_law_285 : decode cL_law 285 = .ok (.aload_n 3, 1) := by decide +kernel
theorem dL_law_286 : decode cL_law 286 = .ok (.iconst 0, 1) := by decide +kernel
theorem dL_law_287 : decode cL_law 287 = .ok (.laload, 1) := by decide +kernel
theorem dL_law_288 : decode cL_law 288 = .ok (.iload 6, 2) := by decide +kernel
theorem dL_law_290 : decode cL_law 290 = .ok (.i2l, 1) := by decide +kernel
theorem dL_law_291 : decode cL_law 291 = .ok (.lcmp, 1) := by decide +kernel
theorem dL_law_292 : decode cL_law 292 = .ok (.ifCond .eq 5, 3) := by decide +kernel
theorem dL_law_295 : decode cL_law 295 = .ok (.iconst 0, 1) := by decide +kernel
theorem dL_law_296 : decode cL_law 296 = .ok (.ireturn, 1) := by decide +kernel
theorem dL_law_297 : decode cL_law 297 = .ok (.goto 877, 3) := by decide +kernel
theorem dL_law_300 : decode cL_law 300 = .ok (.aload_n 1, 1) := by decide +kernel
theorem dL_law_301 : decode cL_law 301 = .ok (.aload_n 0, 1) := by decide +kernel
theorem dL_law_302 : decode cL_law 302 = .ok (.iload 4, 2) := by decide +kernel
theorem dL_law_304 : decode cL_law 304 = .ok (.iconst 1, 1) := by decide +kernel
theorem dL_law_305 : decode cL_law 305 = .ok (.iadd, 1) := by decide +kernel
theorem dL_law_306 : decode cL_law 306 = .ok (.iaload, 1) := by decide +kernel
theorem dL_law_307 : decode cL_law 307 = .ok (.aload_n 0, 1) := by decide +kernel
theorem dL_law_308 : decode cL_law 308 = .ok (.iload 4, 2) := by decide +kernel
theorem dL_law_310 : decode cL_law 310 = .ok (.iconst 2, 1) := by decide +kernel
theorem dL_law_311 : decode cL_law 311 = .ok (.iadd, 1) := by decide +kernel
theorem dL_law_312 : decode cL_law 312 = .ok (.iaload, 1) := by decide +kernel
theorem dL_law_313 : decode cL_law 313 = .ok (.aload_n 0, 1) := by decide +kernel
theorem dL_law_314 : decode cL_law 314 = .ok (.iload 4, 2) := by decide +kernel
theorem dL_law_316 : decode cL_law 316 = .ok (.iconst 3, 1) := by decide +kernel
theorem dL_law_317 : decode cL_law 317 = .ok (.iadd, 1) := by decide +kernel
theorem dL_law_318 : decode cL_law 318 = .ok (.iaload, 1) := by decide +kernel
theorem dL_law_319 : decode cL_law 319 = .ok (.aload_n 0, 1) := by decide +kernel
theorem dL_law_320 : decode cL_law 320 = .ok (.iload 4, 2) := by decide +kernel
theorem dL_law_322 : decode cL_law 322 = .ok (.iconst 4, 1) := by decide +kernel
theorem dL_law_323 : decode cL_law 323 = .ok (.iadd, 1) := by decide +kernel
theorem dL_law_324 : decode cL_law 324 = .ok (.iaload, 1) := by decide +kernel
theorem dL_law_325 : decode cL_law 325 = .ok (.invokestatic 86, 3) := by decide +kernel
theorem dL_law_328 : decode cL_law 328 = .ok (.istore 5, 2) := by decide +kernel
theorem dL_law_330 : decode cL_law 330 = .ok (.aload_n 2, 1) := by decide +kernel
theorem dL_law_331 : decode cL_law 331 = .ok (.aload_n 0, 1) := by decide +kernel
theorem dL_law_332 : decode cL_law 332 = .ok (.iload 4, 2) := by decide +kernel
theorem dL_law_334 : decode cL_law 334 = .ok (.iconst 1, 1) := by decide +kernel
theorem dL_law_335 : decode cL_law 335 = .ok (.iadd, 1) := by decide +kernel
theorem dL_law_336 : decode cL_law 336 = .ok (.iaload, 1) := by decide +kernel
theorem dL_law_337 : decode cL_law 337 = .ok (.aload_n 0, 1) := by decide +kernel
theorem dL_law_338 : decode cL_law 338 = .ok (.iload 4, 2) := by decide +kernel
theorem dL_law_340 : decode cL_law 340 = .ok (.iconst 2, 1) := by decide +kernel
theorem dL_law_341 : decode cL_law 341 = .ok (.iadd, 1) := by decide +kernel
theorem dL_law_342 : decode cL_law 342 = .ok (.iaload, 1) := by decide +kernel
theorem dL_law_343 : decode cL_law 343 = .ok (.aload_n 0, 1) := by decide +kernel
theorem dL_law_344 : decode cL_law 344 = .ok (.iload 4, 2) := by decide +kernel
theorem dL_law_346 : decode cL_law 346 = .ok (.iconst 3, 1) := by decide +kernel
theorem dL_law_347 : decode cL_law 347 = .ok (.iadd, 1) := by decide +kernel
theorem dL_law_348 : decode cL_law 348 = .ok (.iaload, 1) := by decide +kernel
theorem dL_law_349 : decode cL_law 349 = .ok (.aload_n 0, 1) := by decide +kernel
theorem dL_law_350 : decode cL_law 350 = .ok (.iload 4, 2) := by decide +kernel
theorem dL_law_352 : decode cL_law 352 = .ok (.iconst 4, 1) := by decide +kernel
theorem dL_law_353 : decode cL_law 353 = .ok (.iadd, 1) := by decide +kernel
theorem dL_law_354 : decode cL_law 354 = .ok (.iaload, 1) := by decide +kernel
theorem dL_law_355 : decode cL_law 355 = .ok (.invokevirtual 89, 3) := by decide +kernel
theorem dL_law_358 : decode cL_law 358 = .ok (.aload_n 2, 1) := by decide +kernel
theorem dL_law_359 : decode cL_law 359 = .ok (.invokevirtual 78, 3) := by decide +kernel
theorem dL_law_362 : decode cL_law 362 = .ok (.iload 5, 2) := by decide +kernel
theorem dL_law_364 : decode cL_law 364 = .ok (.if_icmp .eq 5, 3) := by decide +kernel
theorem dL_law_367 : decode cL_law 367 = .ok (.iconst 0, 1) := by decide +kernel
theorem dL_law_368 : decode cL_law 368 = .ok (.ireturn, 1) := by decide +kernel
theorem dL_law_369 : decode cL_law 369 = .ok (.goto 805, 3) := by decide +kernel
theorem dL_law_372 : decode cL_law 372 = .ok (.aload_n 1, 1) := by decide +kernel
theorem dL_law_373 : decode cL_law 373 = .ok (.aload_n 0, 1) := by decide +kernel
theorem dL_law_374 : decode cL_law 374 = .ok (.iload 4, 2) := by decide +kernel
theorem dL_law_376 : decode cL_law 376 = .ok (.iconst 1, 1) := by decide +kernel
theorem dL_law_377 : decode cL_law 377 = .ok (.iadd, 1) := by decide +kernel
theorem dL_law_378 : decode cL_law 378 = .ok (.iaload, 1) := by decide +kernel
theorem dL_law_379 : decode cL_law 379 = .ok (.aload_n 3, 1) := by decide +kernel
theorem dL_law_380 : decode cL_law 380 = .ok (.invokestatic 90, 3) := by decide +kernel
theorem dL_law_383 : decode cL_law 383 = .ok (.istore 5, 2) := by decide +kernel
theorem dL_law_385 : decode cL_law 385 = .ok (.aload_n 2, 1) := by decide +kernel
theorem dL_law_386 : decode cL_law 386 = .ok (.aload_n 0, 1) := by decide +kernel
theorem dL_law_387 : decode cL_law 387 = .ok (.iload 4, 2) := by decide +kernel
theorem dL_law_389 : decode cL_law 389 = .ok (.iconst 1, 1) := by decide +kernel
theorem dL_law_390 : decode cL_law 390 = .ok (.iadd, 1) := by decide +kernel
theorem dL_law_391 : decode cL_law 391 = .ok (.iaload, 1) := by decide +kernel
theorem dL_law_392 : decode cL_law 392 = .ok (.invokevirtual 92, 3) := by decide +kernel
theorem dL_law_395 : decode cL_law 395 = .ok (.istore 6, 2) := by decide +kernel
theorem dL_law_397 : decode cL_law 397 = .ok (.aload_n 2, 1) := by decide +kernel
theorem dL_law_398 : decode cL_law 398 = .ok (.invokevirtual 78, 3) := by decide +kernel
theorem dL_law_401 : decode cL_law 401 = .ok (.iload 5, 2) := by decide +kernel
theorem dL_law_403 : decode cL_law 403 = .ok (.if_icmp .eq 5, 3) := by decide +kernel
theorem dL_law_406 : decode cL_law 406 = .ok (.iconst 0, 1) := by decide +kernel
theorem dL_law_407 : decode cL_law 407 = .ok (.ireturn, 1) := by decide +kernel
theorem dL_law_408 : decode cL_law 408 = .ok (.iload 5, 2) := by decide +kernel
theorem dL_law_410 : decode cL_law 410 = .ok (.ifCond .ne 15, 3) := by decide +kernel
theorem dL_law_413 : decode cL_law 413 = .ok (.aload_n 3, 1) := by decide +kernel
theorem dL_law_414 : decode cL_law 414 = .ok (.iconst 0, 1) := by decide +kernel
theorem dL_law_415 : decode cL_law 415 = .ok (.laload, 1) := by decide +kernel
theorem dL_law_416 : decode cL_law 416 = .ok (.iload 6, 2) := by decide +kernel
theorem dL_law_418 : decode cL_law 418 = .ok (.i2l, 1) := by decide +kernel
theorem dL_law_419 : decode cL_law 419 = .ok (.lcmp, 1) := by decide +kernel
theorem dL_law_420 : decode cL_law 420 = .ok (.ifCond .eq 5, 3) := by decide +kernel
theorem dL_law_423 : decode cL_law 423 = .ok (.iconst 0, 1) := by decide +kernel
theorem dL_law_424 : decode cL_law 424 = .ok (.ireturn, 1) := by decide +kernel
theorem dL_law_425 : decode cL_law 425 = .ok (.goto 749, 3) := by decide +kernel
theorem dL_law_428 : decode cL_law 428 = .ok (.aload_n 1, 1) := by decide +kernel
theorem dL_law_429 : decode cL_law 429 = .ok (.aload_n 0, 1) := by decide +kernel
theorem dL_law_430 : decode cL_law 430 = .ok (.iload 4, 2) := by decide +kernel
theorem dL_law_432 : decode cL_law 432 = .ok (.iconst 1, 1) := by decide +kernel
theorem dL_law_433 : decode cL_law 433 = .ok (.iadd, 1) := by decide +kernel
theorem dL_law_434 : decode cL_law 434 = .ok (.iaload, 1) := by decide +kernel
theorem dL_law_435 : decode cL_law 435 = .ok (.aload_n 3, 1) := by decide +kernel
theorem dL_law_436 : decode cL_law 436 = .ok (.invokestatic 93, 3) := by decide +kernel
theorem dL_law_439 : decode cL_law 439 = .ok (.istore 5, 2) := by decide +kernel
theorem dL_law_441 : decode cL_law 441 = .ok (.aload_n 2, 1) := by decide +kernel
theorem dL_law_442 : decode cL_law 442 = .ok (.aload_n 0, 1) := by decide +kernel
theorem dL_law_443 : decode cL_law 443 = .ok (.iload 4, 2) := by decide +kernel
theorem dL_law_445 : decode cL_law 445 = .ok (.iconst 1, 1) := by decide +kernel
theorem dL_law_446 : decode cL_law 446 = .ok (.iadd, 1) := by decide +kernel
theorem dL_law_447 : decode cL_law 447 = .ok (.iaload, 1) := by decide +kernel
theorem dL_law_448 : decode cL_law 448 = .ok (.invokevirtual 95, 3) := by decide +kernel
theorem dL_law_451 : decode cL_law 451 = .ok (.istore 6, 2) := by decide +kernel
theorem dL_law_453 : decode cL_law 453 = .ok (.aload_n 2, 1) := by decide +kernel
theorem dL_law_454 : decode cL_law 454 = .ok (.invokevirtual 78, 3) := by decide +kernel
theorem dL_law_457 : decode cL_law 457 = .ok (.iload 5, 2) := by decide +kernel
theorem dL_law_459 : decode cL_law 459 = .ok (.if_icmp .eq 5, 3) := by decide +kernel
theorem dL_law_462 : decode cL_law 462 = .ok (.iconst 0, 1) := by decide +kernel
theorem dL_law_463 : decode cL_law 463 = .ok (.ireturn, 1) := by decide +kernel
theorem dL_law_464 : decode cL_law 464 = .ok (.iload 5, 2) := by decide +kernel
theorem dL_law_466 : decode cL_law 466 = .ok (.ifCond .ne 15, 3) := by decide +kernel
theorem dL_law_469 : decode cL_law 469 = .ok (.aload_n 3, 1) := by decide +kernel
theorem dL_law_470 : decode cL_law 470 = .ok (.iconst 0, 1) := by decide +kernel
theorem dL_law_471 : decode cL_law 471 = .ok (.laload, 1) := by decide +kernel
theorem dL_law_472 : decode cL_law 472 = .ok (.iload 6, 2) := by decide +kernel
theorem dL_law_474 : decode cL_law 474 = .ok (.i2l, 1) := by decide +kernel
theorem dL_law_475 : decode cL_law 475 = .ok (.lcmp, 1) := by decide +kernel
theorem dL_law_476 : decode cL_law 476 = .ok (.ifCond .eq 5, 3) := by decide +kernel
theorem dL_law_479 : decode cL_law 479 = .ok (.iconst 0, 1) := by decide +kernel
theorem dL_law_480 : decode cL_law 480 = .ok (.ireturn, 1) := by decide +kernel
theorem dL_law_481 : decode cL_law 481 = .ok (.goto 693, 3) := by decide +kernel
theorem dL_law_484 : decode cL_law 484 = .ok (.aload_n 1, 1) := by decide +kernel
theorem dL_law_485 : decode cL_law 485 = .ok (.aload_n 0, 1) := by decide +kernel
theorem dL_law_486 : decode cL_law 486 = .ok (.iload 4, 2) := by decide +kernel
theorem dL_law_488 : decode cL_law 488 = .ok (.iconst 1, 1) := by decide +kernel
theorem dL_law_489 : decode cL_law 489 = .ok (.iadd, 1) := by decide +kernel
theorem dL_law_490 : decode cL_law 490 = .ok (.iaload, 1) := by decide +kernel
theorem dL_law_491 : decode cL_law 491 = .ok (.aload_n 3, 1) := by decide +kernel
theorem dL_law_492 : decode cL_law 492 = .ok (.invokestatic 96, 3) := by decide +kernel
theorem dL_law_495 : decode cL_law 495 = .ok (.istore 5, 2) := by decide +kernel
theorem dL_law_497 : decode cL_law 497 = .ok (.aload_n 2, 1) := by decide +kernel
theorem dL_law_498 : decode cL_law 498 = .ok (.aload_n 0, 1) := by decide +kernel
theorem dL_law_499 : decode cL_law 499 = .ok (.iload 4, 2) := by decide +kernel
theorem dL_law_501 : decode cL_law 501 = .ok (.iconst 1, 1) := by decide +kernel
theorem dL_law_502 : decode cL_law 502 = .ok (.iadd, 1) := by decide +kernel
theorem dL_law_503 : decode cL_law 503 = .ok (.iaload, 1) := by decide +kernel
theorem dL_law_504 : decode cL_law 504 = .ok (.invokevirtual 98, 3) := by decide +kernel
theorem dL_law_507 : decode cL_law 507 = .ok (.istore 6, 2) := by decide +kernel
theorem dL_law_509 : decode cL_law 509 = .ok (.aload_n 2, 1) := by decide +kernel
theorem dL_law_510 : decode cL_law 510 = .ok (.invokevirtual 78, 3) := by decide +kernel
theorem dL_law_513 : decode cL_law 513 = .ok (.iload 5, 2) := by decide +kernel
theorem dL_law_515 : decode cL_law 515 = .ok (.if_icmp .eq 5, 3) := by decide +kernel
theorem dL_law_518 : decode cL_law 518 = .ok (.iconst 0, 1) := by decide +kernel
theorem dL_law_519 : decode cL_law 519 = .ok (.ireturn, 1) := by decide +kernel
theorem dL_law_520 : decode cL_law 520 = .ok (.iload 5, 2) := by decide +kernel
theorem dL_law_522 : decode cL_law 522 = .ok (.ifCond .ne 15, 3) := by decide +kernel
theorem dL_law_525 : decode cL_law 525 = .ok (.aload_n 3, 1) := by decide +kernel
theorem dL_law_526 : decode cL_law 526 = .ok (.iconst 0, 1) := by decide +kernel
theorem dL_law_527 : decode cL_law 527 = .ok (.laload, 1) := by decide +kernel
theorem dL_law_528 : decode cL_law 528 = .ok (.iload 6, 2) := by decide +kernel
theorem dL_law_530 : decode cL_law 530 = .ok (.i2l, 1) := by decide +kernel
theorem dL_law_531 : decode cL_law 531 = .ok (.lcmp, 1) := by decide +kernel
theorem dL_law_532 : decode cL_law 532 = .ok (.ifCond .eq 5, 3) := by decide +kernel
theorem dL_law_535 : decode cL_law 535 = .ok (.iconst 0, 1) := by decide +kernel
theorem dL_law_536 : decode cL_law 536 = .ok (.ireturn, 1) := by decide +kernel
theorem dL_law_537 : decode cL_law 537 = .ok (.goto 637, 3) := by decide +kernel
theorem dL_law_540 : decode cL_law 540 = .ok (.aload_n 1, 1) := by decide +kernel
theorem dL_law_541 : decode cL_law 541 = .ok (.aload_n 0, 1) := by decide +kernel
theorem dL_law_542 : decode cL_law 542 = .ok (.iload 4, 2) := by decide +kernel
theorem dL_law_544 : decode cL_law 544 = .ok (.iconst 1, 1) := by decide +kernel
theorem dL_law_545 : decode cL_law 545 = .ok (.iadd, 1) := by decide +kernel
theorem dL_law_546 : decode cL_law 546 = .ok (.iaload, 1) := by decide +kernel
theorem dL_law_547 : decode cL_law 547 = .ok (.aload_n 3, 1) := by decide +kernel
theorem dL_law_548 : decode cL_law 548 = .ok (.invokestatic 99, 3) := by decide +kernel
theorem dL_law_551 : decode cL_law 551 = .ok (.istore 5, 2) := by decide +kernel
theorem dL_law_553 : decode cL_law 553 = .ok (.aload_n 2, 1) := by decide +kernel
theorem dL_law_554 : decode cL_law 554 = .ok (.aload_n 0, 1) := by decide +kernel
theorem dL_law_555 : decode cL_law 555 = .ok (.iload 4, 2) := by decide +kernel
theorem dL_law_557 : decode cL_law 557 = .ok (.iconst 1, 1) := by decide +kernel
theorem dL_law_558 : decode cL_law 558 = .ok (.iadd, 1) := by decide +kernel
theorem dL_law_559 : decode cL_law 559 = .ok (.iaload, 1) := by decide +kernel
theorem dL_law_560 : decode cL_law 560 = .ok (.invokevirtual 101, 3) := by decide +kernel
theorem dL_law_563 : decode cL_law 563 = .ok (.istore 6, 2) := by decide +kernel
theorem dL_law_565 : decode cL_law 565 = .ok (.aload_n 2, 1) := by decide +kernel
theorem dL_law_566 : decode cL_law 566 = .ok (.invokevirtual 78, 3) := by decide +kernel
theorem dL_law_569 : decode cL_law 569 = .ok (.iload 5, 2) := by decide +kernel
theorem dL_law_571 : decode cL_law 571 = .ok (.if_icmp .eq 5, 3) := by decide +kernel
theorem dL_law_574 : decode cL_law 574 = .ok (.iconst 0, 1) := by decide +kernel
theorem dL_law_575 : decode cL_law 575 = .ok (.ireturn, 1) := by decide +kernel
theorem dL_law_576 : decode cL_law 576 = .ok (.iload 5, 2) := by decide +kernel
theorem dL_law_578 : decode cL_law 578 = .ok (.ifCond .ne 15, 3) := by decide +kernel
theorem dL_law_581 : decode cL_law 581 = .ok (.aload_n 3, 1) := by decide +kernel
theorem dL_law_582 : decode cL_law 582 = .ok (.iconst 0, 1) := by decide +kernel
theorem dL_law_583 : decode cL_law 583 = .ok (.laload, 1) := by decide +kernel
theorem dL_law_584 : decode cL_law 584 = .ok (.iload 6, 2) := by decide +kernel
theorem dL_law_586 : decode cL_law 586 = .ok (.i2l, 1) := by decide +kernel
theorem dL_law_587 : decode cL_law 587 = .ok (.lcmp, 1) := by decide +kernel
theorem dL_law_588 : decode cL_law 588 = .ok (.ifCond .eq 5, 3) := by decide +kernel
theorem dL_law_591 : decode cL_law 591 = .ok (.iconst 0, 1) := by decide +kernel
theorem dL_law_592 : decode cL_law 592 = .ok (.ireturn, 1) := by decide +kernel
theorem dL_law_593 : decode cL_law 593 = .ok (.goto 581, 3) := by decide +kernel
theorem dL_law_596 : decode cL_law 596 = .ok (.aload_n 1, 1) := by decide +kernel
theorem dL_law_597 : decode cL_law 597 = .ok (.aload_n 0, 1) := by decide +kernel
theorem dL_law_598 : decode cL_law 598 = .ok (.iload 4, 2) := by decide +kernel
theorem dL_law_600 : decode cL_law 600 = .ok (.iconst 1, 1) := by decide +kernel
theorem dL_law_601 : decode cL_law 601 = .ok (.iadd, 1) := by decide +kernel
theorem dL_law_602 : decode cL_law 602 = .ok (.iaload, 1) := by decide +kernel
theorem dL_law_603 : decode cL_law 603 = .ok (.aload_n 0, 1) := by decide +kernel
theorem dL_law_604 : decode cL_law 604 = .ok (.iload 4, 2) := by decide +kernel
theorem dL_law_606 : decode cL_law 606 = .ok (.iconst 2, 1) := by decide +kernel
theorem dL_law_607 : decode cL_law 607 = .ok (.iadd, 1) := by decide +kernel
theorem dL_law_608 : decode cL_law 608 = .ok (.iaload, 1) := by decide +kernel
theorem dL_law_609 : decode cL_law 609 = .ok (.ifCond .eq 7, 3) := by decide +kernel
theorem dL_law_612 : decode cL_law 612 = .ok (.iconst 1, 1) := by decide +kernel
theorem dL_law_613 : decode cL_law 613 = .ok (.goto 4, 3) := by decide +kernel
theorem dL_law_616 : decode cL_law 616 = .ok (.iconst 0, 1) := by decide +kernel
theorem dL_law_617 : decode cL_law 617 = .ok (.aload_n 3, 1) := by decide +kernel
theorem dL_law_618 : decode cL_law 618 = .ok (.invokestatic 102, 3) := by decide +kernel
theorem dL_law_621 : decode cL_law 621 = .ok (.istore 5, 2) := by decide +kernel
theorem dL_law_623 : decode cL_law 623 = .ok (.aload_n 2, 1) := by decide +kernel
theorem dL_law_624 : decode cL_law 624 = .ok (.aload_n 0, 1) := by decide +kernel
theorem dL_law_625 : decode cL_law 625 = .ok (.iload 4, 2) := by decide +kernel
theorem dL_law_627 : decode cL_law 627 = .ok (.iconst 1, 1) := by decide +kernel
theorem dL_law_628 : decode cL_law 628 = .ok (.iadd, 1) := by decide +kernel
theorem dL_law_629 : decode cL_law 629 = .ok (.iaload, 1) := by decide +kernel
theorem dL_law_630 : decode cL_law 630 = .ok (.aload_n 0, 1) := by decide +kernel
theorem dL_law_631 : decode cL_law 631 = .ok (.iload 4, 2) := by decide +kernel
theorem dL_law_633 : decode cL_law 633 = .ok (.iconst 2, 1) := by decide +kernel
theorem dL_law_634 : decode cL_law 634 = .ok (.iadd, 1) := by decide +kernel
theorem dL_law_635 : decode cL_law 635 = .ok (.iaload, 1) := by decide +kernel
theorem dL_law_636 : decode cL_law 636 = .ok (.ifCond .eq 7, 3) := by decide +kernel
theorem dL_law_639 : decode cL_law 639 = .ok (.iconst 1, 1) := by decide +kernel
theorem dL_law_640 : decode cL_law 640 = .ok (.goto 4, 3) := by decide +kernel
theorem dL_law_643 : decode cL_law 643 = .ok (.iconst 0, 1) := by decide +kernel
theorem dL_law_644 : decode cL_law 644 = .ok (.invokevirtual 105, 3) := by decide +kernel
theorem dL_law_647 : decode cL_law 647 = .ok (.istore 6, 2) := by decide +kernel
theorem dL_law_649 : decode cL_law 649 = .ok (.aload_n 2, 1) := by decide +kernel
theorem dL_law_650 : decode cL_law 650 = .ok (.invokevirtual 78, 3) := by decide +kernel
theorem dL_law_653 : decode cL_law 653 = .ok (.iload 5, 2) := by decide +kernel
theorem dL_law_655 : decode cL_law 655 = .ok (.if_icmp .eq 5, 3) := by decide +kernel
theorem dL_law_658 : decode cL_law 658 = .ok (.iconst 0, 1) := by decide +kernel
theorem dL_law_659 : decode cL_law 659 = .ok (.ireturn, 1) := by decide +kernel
theorem dL_law_660 : decode cL_law 660 = .ok (.iload 5, 2) := by decide +kernel
theorem dL_law_662 : decode cL_law 662 = .ok (.ifCond .ne 22, 3) := by decide +kernel
theorem dL_law_665 : decode cL_law 665 = .ok (.aload_n 3, 1) := by decide +kernel
theorem dL_law_666 : decode cL_law 666 = .ok (.iconst 0, 1) := by decide +kernel
theorem dL_law_667 : decode cL_law 667 = .ok (.laload, 1) := by decide +kernel
theorem dL_law_668 : decode cL_law 668 = .ok (.iload 6, 2) := by decide +kernel
theorem dL_law_670 : decode cL_law 670 = .ok (.ifCond .eq 7, 3) := by decide +kernel
theorem dL_law_673 : decode cL_law 673 = .ok (.lconst 1, 1) := by decide +kernel
theorem dL_law_674 : decode cL_law 674 = .ok (.goto 4, 3) := by decide +kernel
theorem dL_law_677 : decode cL_law 677 = .ok (.lconst 0, 1) := by decide +kernel
theorem dL_law_678 : decode cL_law 678 = .ok (.lcmp, 1) := by decide +kernel
theorem dL_law_679 : decode cL_law 679 = .ok (.ifCond .eq 5, 3) := by decide +kernel
theorem dL_law_682 : decode cL_law 682 = .ok (.iconst 0, 1) := by decide +kernel
theorem dL_law_683 : decode cL_law 683 = .ok (.ireturn, 1) := by decide +kernel
theorem dL_law_684 : decode cL_law 684 = .ok (.goto 490, 3) := by decide +kernel
theorem dL_law_687 : decode cL_law 687 = .ok (.aload_n 1, 1) := by decide +kernel
theorem dL_law_688 : decode cL_law 688 = .ok (.aload_n 0, 1) := by decide +kernel
theorem dL_law_689 : decode cL_law 689 = .ok (.iload 4, 2) := by decide +kernel
theorem dL_law_691 : decode cL_law 691 = .ok (.iconst 1, 1) := by decide +kernel
theorem dL_law_692 : decode cL_law 692 = .ok (.iadd, 1) := by decide +kernel
theorem dL_law_693 : decode cL_law 693 = .ok (.iaload, 1) := by decide +kernel
theorem dL_law_694 : decode cL_law 694 = .ok (.aload_n 0, 1) := by decide +kernel
theorem dL_law_695 : decode cL_law 695 = .ok (.iload 4, 2) := by decide +kernel
theorem dL_law_697 : decode cL_law 697 = .ok (.iconst 2, 1) := by decide +kernel
theorem dL_law_698 : decode cL_law 698 = .ok (.iadd, 1) := by decide +kernel
theorem dL_law_699 : decode cL_law 699 = .ok (.iaload, 1) := by decide +kernel
theorem dL_law_700 : decode cL_law 700 = .ok (.aload_n 3, 1) := by decide +kernel
theorem dL_law_701 : decode cL_law 701 = .ok (.invokestatic 106, 3) := by decide +kernel
theorem dL_law_704 : decode cL_law 704 = .ok (.istore 5, 2) := by decide +kernel
theorem dL_law_706 : decode cL_law 706 = .ok (.aload_n 2, 1) := by decide +kernel
theorem dL_law_707 : decode cL_law 707 = .ok (.aload_n 0, 1) := by decide +kernel
theorem dL_law_708 : decode cL_law 708 = .ok (.iload 4, 2) := by decide +kernel
theorem dL_law_710 : decode cL_law 710 = .ok (.iconst 1, 1) := by decide +kernel
theorem dL_law_711 : decode cL_law 711 = .ok (.iadd, 1) := by decide +kernel
theorem dL_law_712 : decode cL_law 712 = .ok (.iaload, 1) := by decide +kernel
theorem dL_law_713 : decode cL_law 713 = .ok (.aload_n 0, 1) := by decide +kernel
theorem dL_law_714 : decode cL_law 714 = .ok (.iload 4, 2) := by decide +kernel
theorem dL_law_716 : decode cL_law 716 = .ok (.iconst 2, 1) := by decide +kernel
theorem dL_law_717 : decode cL_law 717 = .ok (.iadd, 1) := by decide +kernel
theorem dL_law_718 : decode cL_law 718 = .ok (.iaload, 1) := by decide +kernel
theorem dL_law_719 : decode cL_law 719 = .ok (.invokevirtual 109, 3) := by decide +kernel
theorem dL_law_722 : decode cL_law 722 = .ok (.istore 6, 2) := by decide +kernel
theorem dL_law_724 : decode cL_law 724 = .ok (.aload_n 2, 1) := by decide +kernel
theorem dL_law_725 : decode cL_law 725 = .ok (.invokevirtual 78, 3) := by decide +kernel
theorem dL_law_728 : decode cL_law 728 = .ok (.iload 5, 2) := by decide +kernel
theorem dL_law_730 : decode cL_law 730 = .ok (.if_icmp .eq 5, 3) := by decide +kernel
theorem dL_law_733 : decode cL_law 733 = .ok (.iconst 0, 1) := by decide +kernel
theorem dL_law_734 : decode cL_law 734 = .ok (.ireturn, 1) := by decide +kernel
theorem dL_law_735 : decode cL_law 735 = .ok (.iload 5, 2) := by decide +kernel
theorem dL_law_737 : decode cL_law 737 = .ok (.ifCond .ne 15, 3) := by decide +kernel
theorem dL_law_740 : decode cL_law 740 = .ok (.aload_n 3, 1) := by decide +kernel
theorem dL_law_741 : decode cL_law 741 = .ok (.iconst 0, 1) := by decide +kernel
theorem dL_law_742 : decode cL_law 742 = .ok (.laload, 1) := by decide +kernel
theorem dL_law_743 : decode cL_law 743 = .ok (.iload 6, 2) := by decide +kernel
theorem dL_law_745 : decode cL_law 745 = .ok (.i2l, 1) := by decide +kernel
theorem dL_law_746 : decode cL_law 746 = .ok (.lcmp, 1) := by decide +kernel
theorem dL_law_747 : decode cL_law 747 = .ok (.ifCond .eq 5, 3) := by decide +kernel
theorem dL_law_750 : decode cL_law 750 = .ok (.iconst 0, 1) := by decide +kernel
theorem dL_law_751 : decode cL_law 751 = .ok (.ireturn, 1) := by decide +kernel
theorem dL_law_752 : decode cL_law 752 = .ok (.goto 422, 3) := by decide +kernel
theorem dL_law_755 : decode cL_law 755 = .ok (.aload_n 1, 1) := by decide +kernel
theorem dL_law_756 : decode cL_law 756 = .ok (.invokevirtual 110, 3) := by decide +kernel
theorem dL_law_759 : decode cL_law 759 = .ok (.aload_n 2, 1) := by decide +kernel
theorem dL_law_760 : decode cL_law 760 = .ok (.invokevirtual 113, 3) := by decide +kernel
theorem dL_law_763 : decode cL_law 763 = .ok (.if_icmp .eq 411, 3) := by decide +kernel
theorem dL_law_766 : decode cL_law 766 = .ok (.iconst 0, 1) := by decide +kernel
theorem dL_law_767 : decode cL_law 767 = .ok (.ireturn, 1) := by decide +kernel
theorem dL_law_768 : decode cL_law 768 = .ok (.aload_n 1, 1) := by decide +kernel
theorem dL_law_769 : decode cL_law 769 = .ok (.aload_n 0, 1) := by decide +kernel
theorem dL_law_770 : decode cL_law 770 = .ok (.iload 4, 2) := by decide +kernel
theorem dL_law_772 : decode cL_law 772 = .ok (.iconst 1, 1) := by decide +kernel
theorem dL_law_773 : decode cL_law 773 = .ok (.iadd, 1) := by decide +kernel
theorem dL_law_774 : decode cL_law 774 = .ok (.iaload, 1) := by decide +kernel
theorem dL_law_775 : decode cL_law 775 = .ok (.aload_n 0, 1) := by decide +kernel
theorem dL_law_776 : decode cL_law 776 = .ok (.iload 4, 2) := by decide +kernel
theorem dL_law_778 : decode cL_law 778 = .ok (.iconst 2, 1) := by decide +kernel
theorem dL_law_779 : decode cL_law 779 = .ok (.iadd, 1) := by decide +kernel
theorem dL_law_780 : decode cL_law 780 = .ok (.iaload, 1) := by decide +kernel
theorem dL_law_781 : decode cL_law 781 = .ok (.aload_n 3, 1) := by decide +kernel
theorem dL_law_782 : decode cL_law 782 = .ok (.invokestatic 114, 3) := by decide +kernel
theorem dL_law_785 : decode cL_law 785 = .ok (.istore 5, 2) := by decide +kernel
theorem dL_law_787 : decode cL_law 787 = .ok (.aload_n 2, 1) := by decide +kernel
theorem dL_law_788 : decode cL_law 788 = .ok (.aload_n 0, 1) := by decide +kernel
theorem dL_law_789 : decode cL_law 789 = .ok (.iload 4, 2) := by decide +kernel
theorem dL_law_791 : decode cL_law 791 = .ok (.iconst 1, 1) := by decide +kernel
theorem dL_law_792 : decode cL_law 792 = .ok (.iadd, 1) := by decide +kernel
theorem dL_law_793 : decode cL_law 793 = .ok (.iaload, 1) := by decide +kernel
theorem dL_law_794 : decode cL_law 794 = .ok (.aload_n 0, 1) := by decide +kernel
theorem dL_law_795 : decode cL_law 795 = .ok (.iload 4, 2) := by decide +kernel
theorem dL_law_797 : decode cL_law 797 = .ok (.iconst 2, 1) := by decide +kernel
theorem dL_law_798 : decode cL_law 798 = .ok (.iadd, 1) := by decide +kernel
theorem dL_law_799 : decode cL_law 799 = .ok (.iaload, 1) := by decide +kernel
theorem dL_law_800 : decode cL_law 800 = .ok (.invokevirtual 116, 3) := by decide +kernel
theorem dL_law_803 : decode cL_law 803 = .ok (.istore 6, 2) := by decide +kernel
theorem dL_law_805 : decode cL_law 805 = .ok (.aload_n 2, 1) := by decide +kernel
theorem dL_law_806 : decode cL_law 806 = .ok (.invokevirtual 78, 3) := by decide +kernel
theorem dL_law_809 : decode cL_law 809 = .ok (.iload 5, 2) := by decide +kernel
theorem dL_law_811 : decode cL_law 811 = .ok (.if_icmp .eq 5, 3) := by decide +kernel
theorem dL_law_814 : decode cL_law 814 = .ok (.iconst 0, 1) := by decide +kernel
theorem dL_law_815 : decode cL_law 815 = .ok (.ireturn, 1) := by decide +kernel
theorem dL_law_816 : decode cL_law 816 = .ok (.iload 5, 2) := by decide +kernel
theorem dL_law_818 : decode cL_law 818 = .ok (.ifCond .ne 15, 3) := by decide +kernel
theorem dL_law_821 : decode cL_law 821 = .ok (.aload_n 3, 1) := by decide +kernel
theorem dL_law_822 : decode cL_law 822 = .ok (.iconst 0, 1) := by decide +kernel
theorem dL_law_823 : decode cL_law 823 = .ok (.laload, 1) := by decide +kernel
theorem dL_law_824 : decode cL_law 824 = .ok (.iload 6, 2) := by decide +kernel
theorem dL_law_826 : decode cL_law 826 = .ok (.i2l, 1) := by decide +kernel
theorem dL_law_827 : decode cL_law 827 = .ok (.lcmp, 1) := by decide +kernel
theorem dL_law_828 : decode cL_law 828 = .ok (.ifCond .eq 5, 3) := by decide +kernel
theorem dL_law_831 : decode cL_law 831 = .ok (.iconst 0, 1) := by decide +kernel
theorem dL_law_832 : decode cL_law 832 = .ok (.ireturn, 1) := by decide +kernel
theorem dL_law_833 : decode cL_law 833 = .ok (.goto 341, 3) := by decide +kernel
theorem dL_law_836 : decode cL_law 836 = .ok (.aload_n 1, 1) := by decide +kernel
theorem dL_law_837 : decode cL_law 837 = .ok (.aload_n 0, 1) := by decide +kernel
theorem dL_law_838 : decode cL_law 838 = .ok (.iload 4, 2) := by decide +kernel
theorem dL_law_840 : decode cL_law 840 = .ok (.iconst 1, 1) := by decide +kernel
theorem dL_law_841 : decode cL_law 841 = .ok (.iadd, 1) := by decide +kernel
theorem dL_law_842 : decode cL_law 842 = .ok (.iaload, 1) := by decide +kernel
theorem dL_law_843 : decode cL_law 843 = .ok (.aload_n 0, 1) := by decide +kernel
theorem dL_law_844 : decode cL_law 844 = .ok (.iload 4, 2) := by decide +kernel
theorem dL_law_846 : decode cL_law 846 = .ok (.iconst 2, 1) := by decide +kernel
theorem dL_law_847 : decode cL_law 847 = .ok (.iadd, 1) := by decide +kernel
theorem dL_law_848 : decode cL_law 848 = .ok (.iaload, 1) := by decide +kernel
theorem dL_law_849 : decode cL_law 849 = .ok (.aload_n 0, 1) := by decide +kernel
theorem dL_law_850 : decode cL_law 850 = .ok (.iload 4, 2) := by decide +kernel
theorem dL_law_852 : decode cL_law 852 = .ok (.iconst 3, 1) := by decide +kernel
theorem dL_law_853 : decode cL_law 853 = .ok (.iadd, 1) := by decide +kernel
theorem dL_law_854 : decode cL_law 854 = .ok (.iaload, 1) := by decide +kernel
theorem dL_law_855 : decode cL_law 855 = .ok (.aload_n 3, 1) := by decide +kernel
theorem dL_law_856 : decode cL_law 856 = .ok (.invokestatic 117, 3) := by decide +kernel
theorem dL_law_859 : decode cL_law 859 = .ok (.istore 5, 2) := by decide +kernel
theorem dL_law_861 : decode cL_law 861 = .ok (.aload_n 2, 1) := by decide +kernel
theorem dL_law_862 : decode cL_law 862 = .ok (.aload_n 0, 1) := by decide +kernel
theorem dL_law_863 : decode cL_law 863 = .ok (.iload 4, 2) := by decide +kernel
theorem dL_law_865 : decode cL_law 865 = .ok (.iconst 1, 1) := by decide +kernel
theorem dL_law_866 : decode cL_law 866 = .ok (.iadd, 1) := by decide +kernel
theorem dL_law_867 : decode cL_law 867 = .ok (.iaload, 1) := by decide +kernel
theorem dL_law_868 : decode cL_law 868 = .ok (.aload_n 0, 1) := by decide +kernel
theorem dL_law_869 : decode cL_law 869 = .ok (.iload 4, 2) := by decide +kernel
theorem dL_law_871 : decode cL_law 871 = .ok (.iconst 2, 1) := by decide +kernel
theorem dL_law_872 : decode cL_law 872 = .ok (.iadd, 1) := by decide +kernel
theorem dL_law_873 : decode cL_law 873 = .ok (.iaload, 1) := by decide +kernel
theorem dL_law_874 : decode cL_law 874 = .ok (.aload_n 0, 1) := by decide +kernel
theorem dL_law_875 : decode cL_law 875 = .ok (.iload 4, 2) := by decide +kernel
theorem dL_law_877 : decode cL_law 877 = .ok (.iconst 3, 1) := by decide +kernel
theorem dL_law_878 : decode cL_law 878 = .ok (.iadd, 1) := by decide +kernel
theorem dL_law_879 : decode cL_law 879 = .ok (.iaload, 1) := by decide +kernel
theorem dL_law_880 : decode cL_law 880 = .ok (.invokevirtual 120, 3) := by decide +kernel
theorem dL_law_883 : decode cL_law 883 = .ok (.istore 6, 2) := by decide +kernel
theorem dL_law_885 : decode cL_law 885 = .ok (.aload_n 2, 1) := by decide +kernel
theorem dL_law_886 : decode cL_law 886 = .ok (.invokevirtual 78, 3) := by decide +kernel
theorem dL_law_889 : decode cL_law 889 = .ok (.iload 5, 2) := by decide +kernel
theorem dL_law_891 : decode cL_law 891 = .ok (.if_icmp .eq 5, 3) := by decide +kernel
theorem dL_law_894 : decode cL_law 894 = .ok (.iconst 0, 1) := by decide +kernel
theorem dL_law_895 : decode cL_law 895 = .ok (.ireturn, 1) := by decide +kernel
theorem dL_law_896 : decode cL_law 896 = .ok (.iload 5, 2) := by decide +kernel
theorem dL_law_898 : decode cL_law 898 = .ok (.ifCond .ne 15, 3) := by decide +kernel
theorem dL_law_901 : decode cL_law 901 = .ok (.aload_n 3, 1) := by decide +kernel
theorem dL_law_902 : decode cL_law 902 = .ok (.iconst 0, 1) := by decide +kernel
theorem dL_law_903 : decode cL_law 903 = .ok (.laload, 1) := by decide +kernel
theorem dL_law_904 : decode cL_law 904 = .ok (.iload 6, 2) := by decide +kernel
theorem dL_law_906 : decode cL_law 906 = .ok (.i2l, 1) := by decide +kernel
theorem dL_law_907 : decode cL_law 907 = .ok (.lcmp, 1) := by decide +kernel
theorem dL_law_908 : decode cL_law 908 = .ok (.ifCond .eq 5, 3) := by decide +kernel
theorem dL_law_911 : decode cL_law 911 = .ok (.iconst 0, 1) := by decide +kernel
theorem dL_law_912 : decode cL_law 912 = .ok (.ireturn, 1) := by decide +kernel
theorem dL_law_913 : decode cL_law 913 = .ok (.goto 261, 3) := by decide +kernel
theorem dL_law_916 : decode cL_law 916 = .ok (.aload_n 1, 1) := by decide +kernel
theorem dL_law_917 : decode cL_law 917 = .ok (.aload_n 0, 1) := by decide +kernel
theorem dL_law_918 : decode cL_law 918 = .ok (.iload 4, 2) := by decide +kernel
theorem dL_law_920 : decode cL_law 920 = .ok (.iconst 1, 1) := by decide +kernel
theorem dL_law_921 : decode cL_law 921 = .ok (.iadd, 1) := by decide +kernel
theorem dL_law_922 : decode cL_law 922 = .ok (.iaload, 1) := by decide +kernel
theorem dL_law_923 : decode cL_law 923 = .ok (.aload_n 0, 1) := by decide +kernel
theorem dL_law_924 : decode cL_law 924 = .ok (.iload 4, 2) := by decide +kernel
theorem dL_law_926 : decode cL_law 926 = .ok (.iconst 2, 1) := by decide +kernel
theorem dL_law_927 : decode cL_law 927 = .ok (.iadd, 1) := by decide +kernel
theorem dL_law_928 : decode cL_law 928 = .ok (.iaload, 1) := by decide +kernel
theorem dL_law_929 : decode cL_law 929 = .ok (.aload_n 3, 1) := by decide +kernel
theorem dL_law_930 : decode cL_law 930 = .ok (.invokestatic 121, 3) := by decide +kernel
theorem dL_law_933 : decode cL_law 933 = .ok (.istore 5, 2) := by decide +kernel
theorem dL_law_935 : decode cL_law 935 = .ok (.aload_n 2, 1) := by decide +kernel
theorem dL_law_936 : decode cL_law 936 = .ok (.aload_n 0, 1) := by decide +kernel
theorem dL_law_937 : decode cL_law 937 = .ok (.iload 4, 2) := by decide +kernel
theorem dL_law_939 : decode cL_law 939 = .ok (.iconst 1, 1) := by decide +kernel
theorem dL_law_940 : decode cL_law 940 = .ok (.iadd, 1) := by decide +kernel
theorem dL_law_941 : decode cL_law 941 = .ok (.iaload, 1) := by decide +kernel
theorem dL_law_942 : decode cL_law 942 = .ok (.aload_n 0, 1) := by decide +kernel
theorem dL_law_943 : decode cL_law 943 = .ok (.iload 4, 2) := by decide +kernel
theorem dL_law_945 : decode cL_law 945 = .ok (.iconst 2, 1) := by decide +kernel
theorem dL_law_946 : decode cL_law 946 = .ok (.iadd, 1) := by decide +kernel
theorem dL_law_947 : decode cL_law 947 = .ok (.iaload, 1) := by decide +kernel
theorem dL_law_948 : decode cL_law 948 = .ok (.invokevirtual 123, 3) := by decide +kernel
theorem dL_law_951 : decode cL_law 951 = .ok (.lstore 6, 2) := by decide +kernel
theorem dL_law_953 : decode cL_law 953 = .ok (.aload_n 2, 1) := by decide +kernel
theorem dL_law_954 : decode cL_law 954 = .ok (.invokevirtual 78, 3) := by decide +kernel
theorem dL_law_957 : decode cL_law 957 = .ok (.iload 5, 2) := by decide +kernel
theorem dL_law_959 : decode cL_law 959 = .ok (.if_icmp .eq 5, 3) := by decide +kernel
theorem dL_law_962 : decode cL_law 962 = .ok (.iconst 0, 1) := by decide +kernel
theorem dL_law_963 : decode cL_law 963 = .ok (.ireturn, 1) := by decide +kernel
theorem dL_law_964 : decode cL_law 964 = .ok (.iload 5, 2) := by decide +kernel
theorem dL_law_966 : decode cL_law 966 = .ok (.ifCond .ne 14, 3) := by decide +kernel
theorem dL_law_969 : decode cL_law 969 = .ok (.aload_n 3, 1) := by decide +kernel
theorem dL_law_970 : decode cL_law 970 = .ok (.iconst 0, 1) := by decide +kernel
theorem dL_law_971 : decode cL_law 971 = .ok (.laload, 1) := by decide +kernel
theorem dL_law_972 : decode cL_law 972 = .ok (.lload 6, 2) := by decide +kernel
theorem dL_law_974 : decode cL_law 974 = .ok (.lcmp, 1) := by decide +kernel
theorem dL_law_975 : decode cL_law 975 = .ok (.ifCond .eq 5, 3) := by decide +kernel
theorem dL_law_978 : decode cL_law 978 = .ok (.iconst 0, 1) := by decide +kernel
theorem dL_law_979 : decode cL_law 979 = .ok (.ireturn, 1) := by decide +kernel
theorem dL_law_980 : decode cL_law 980 = .ok (.goto 194, 3) := by decide +kernel
theorem dL_law_983 : decode cL_law 983 = .ok (.aload_n 1, 1) := by decide +kernel
theorem dL_law_984 : decode cL_law 984 = .ok (.aload_n 0, 1) := by decide +kernel
theorem dL_law_985 : decode cL_law 985 = .ok (.iload 4, 2) := by decide +kernel
theorem dL_law_987 : decode cL_law 987 = .ok (.iconst 1, 1) := by decide +kernel
theorem dL_law_988 : decode cL_law 988 = .ok (.iadd, 1) := by decide +kernel
theorem dL_law_989 : decode cL_law 989 = .ok (.iaload, 1) := by decide +kernel
theorem dL_law_990 : decode cL_law 990 = .ok (.aload_n 0, 1) := by decide +kernel
theorem dL_law_991 : decode cL_law 991 = .ok (.iload 4, 2) := by decide +kernel
theorem dL_law_993 : decode cL_law 993 = .ok (.iconst 2, 1) := by decide +kernel
theorem dL_law_994 : decode cL_law 994 = .ok (.iadd, 1) := by decide +kernel
theorem dL_law_995 : decode cL_law 995 = .ok (.iaload, 1) := by decide +kernel
theorem dL_law_996 : decode cL_law 996 = .ok (.aload_n 3, 1) := by decide +kernel
theorem dL_law_997 : decode cL_law 997 = .ok (.invokestatic 124, 3) := by decide +kernel
theorem dL_law_1000 : decode cL_law 1000 = .ok (.istore 5, 2) := by decide +kernel
theorem dL_law_1002 : decode cL_law 1002 = .ok (.aload_n 2, 1) := by decide +kernel
theorem dL_law_1003 : decode cL_law 1003 = .ok (.aload_n 0, 1) := by decide +kernel
theorem dL_law_1004 : decode cL_law 1004 = .ok (.iload 4, 2) := by decide +kernel
theorem dL_law_1006 : decode cL_law 1006 = .ok (.iconst 1, 1) := by decide +kernel
theorem dL_law_1007 : decode cL_law 1007 = .ok (.iadd, 1) := by decide +kernel
theorem dL_law_1008 : decode cL_law 1008 = .ok (.iaload, 1) := by decide +kernel
theorem dL_law_1009 : decode cL_law 1009 = .ok (.aload_n 0, 1) := by decide +kernel
theorem dL_law_1010 : decode cL_law 1010 = .ok (.iload 4, 2) := by decide +kernel
theorem dL_law_1012 : decode cL_law 1012 = .ok (.iconst 2, 1) := by decide +kernel
theorem dL_law_1013 : decode cL_law 1013 = .ok (.iadd, 1) := by decide +kernel
theorem dL_law_1014 : decode cL_law 1014 = .ok (.iaload, 1) := by decide +kernel
theorem dL_law_1015 : decode cL_law 1015 = .ok (.invokevirtual 126, 3) := by decide +kernel
theorem dL_law_1018 : decode cL_law 1018 = .ok (.istore 6, 2) := by decide +kernel
theorem dL_law_1020 : decode cL_law 1020 = .ok (.aload_n 2, 1) := by decide +kernel
theorem dL_law_1021 : decode cL_law 1021 = .ok (.invokevirtual 78, 3) := by decide +kernel
theorem dL_law_1024 : decode cL_law 1024 = .ok (.iload 5, 2) := by decide +kernel
theorem dL_law_1026 : decode cL_law 1026 = .ok (.if_icmp .eq 5, 3) := by decide +kernel
theorem dL_law_1029 : decode cL_law 1029 = .ok (.iconst 0, 1) := by decide +kernel
theorem dL_law_1030 : decode cL_law 1030 = .ok (.ireturn, 1) := by decide +kernel
theorem dL_law_1031 : decode cL_law 1031 = .ok (.iload 5, 2) := by decide +kernel
theorem dL_law_1033 : decode cL_law 1033 = .ok (.ifCond .ne 15, 3) := by decide +kernel
theorem dL_law_1036 : decode cL_law 1036 = .ok (.aload_n 3, 1) := by decide +kernel
theorem dL_law_1037 : decode cL_law 1037 = .ok (.iconst 0, 1) := by decide +kernel
theorem dL_law_1038 : decode cL_law 1038 = .ok (.laload, 1) := by decide +kernel
theorem dL_law_1039 : decode cL_law 1039 = .ok (.iload 6, 2) := by decide +kernel
theorem dL_law_1041 : decode cL_law 1041 = .ok (.i2l, 1) := by decide +kernel
theorem dL_law_1042 : decode cL_law 1042 = .ok (.lcmp, 1) := by decide +kernel
theorem dL_law_1043 : decode cL_law 1043 = .ok (.ifCond .eq 5, 3) := by decide +kernel
theorem dL_law_1046 : decode cL_law 1046 = .ok (.iconst 0, 1) := by decide +kernel
theorem dL_law_1047 : decode cL_law 1047 = .ok (.ireturn, 1) := by decide +kernel
theorem dL_law_1048 : decode cL_law 1048 = .ok (.goto 126, 3) := by decide +kernel
theorem dL_law_1051 : decode cL_law 1051 = .ok (.aload_n 1, 1) := by decide +kernel
theorem dL_law_1052 : decode cL_law 1052 = .ok (.aload_n 0, 1) := by decide +kernel
theorem dL_law_1053 : decode cL_law 1053 = .ok (.iload 4, 2) := by decide +kernel
theorem dL_law_1055 : decode cL_law 1055 = .ok (.iconst 1, 1) := by decide +kernel
theorem dL_law_1056 : decode cL_law 1056 = .ok (.iadd, 1) := by decide +kernel
theorem dL_law_1057 : decode cL_law 1057 = .ok (.iaload, 1) := by decide +kernel
theorem dL_law_1058 : decode cL_law 1058 = .ok (.aload_n 0, 1) := by decide +kernel
theorem dL_law_1059 : decode cL_law 1059 = .ok (.iload 4, 2) := by decide +kernel
theorem dL_law_1061 : decode cL_law 1061 = .ok (.iconst 2, 1) := by decide +kernel
theorem dL_law_1062 : decode cL_law 1062 = .ok (.iadd, 1) := by decide +kernel
theorem dL_law_1063 : decode cL_law 1063 = .ok (.iaload, 1) := by decide +kernel
theorem dL_law_1064 : decode cL_law 1064 = .ok (.aload_n 3, 1) := by decide +kernel
theorem dL_law_1065 : decode cL_law 1065 = .ok (.invokestatic 127, 3) := by decide +kernel
theorem dL_law_1068 : decode cL_law 1068 = .ok (.istore 5, 2) := by decide +kernel
theorem dL_law_1070 : decode cL_law 1070 = .ok (.aload_n 2, 1) := by decide +kernel
theorem dL_law_1071 : decode cL_law 1071 = .ok (.aload_n 0, 1) := by decide +kernel
theorem dL_law_1072 : decode cL_law 1072 = .ok (.iload 4, 2) := by decide +kernel
theorem dL_law_1074 : decode cL_law 1074 = .ok (.iconst 1, 1) := by decide +kernel
theorem dL_law_1075 : decode cL_law 1075 = .ok (.iadd, 1) := by decide +kernel
theorem dL_law_1076 : decode cL_law 1076 = .ok (.iaload, 1) := by decide +kernel
theorem dL_law_1077 : decode cL_law 1077 = .ok (.aload_n 0, 1) := by decide +kernel
theorem dL_law_1078 : decode cL_law 1078 = .ok (.iload 4, 2) := by decide +kernel
theorem dL_law_1080 : decode cL_law 1080 = .ok (.iconst 2, 1) := by decide +kernel
theorem dL_law_1081 : decode cL_law 1081 = .ok (.iadd, 1) := by decide +kernel
theorem dL_law_1082 : decode cL_law 1082 = .ok (.iaload, 1) := by decide +kernel
theorem dL_law_1083 : decode cL_law 1083 = .ok (.invokevirtual 129, 3) := by decide +kernel
theorem dL_law_1086 : decode cL_law 1086 = .ok (.istore 6, 2) := by decide +kernel
theorem dL_law_1088 : decode cL_law 1088 = .ok (.aload_n 2, 1) := by decide +kernel
theorem dL_law_1089 : decode cL_law 1089 = .ok (.invokevirtual 78, 3) := by decide +kernel
theorem dL_law_1092 : decode cL_law 1092 = .ok (.iload 5, 2) := by decide +kernel
theorem dL_law_1094 : decode cL_law 1094 = .ok (.if_icmp .eq 5, 3) := by decide +kernel
theorem dL_law_1097 : decode cL_law 1097 = .ok (.iconst 0, 1) := by decide +kernel
theorem dL_law_1098 : decode cL_law 1098 = .ok (.ireturn, 1) := by decide +kernel
theorem dL_law_1099 : decode cL_law 1099 = .ok (.iload 5, 2) := by decide +kernel
theorem dL_law_1101 : decode cL_law 1101 = .ok (.ifCond .ne 15, 3) := by decide +kernel
theorem dL_law_1104 : decode cL_law 1104 = .ok (.aload_n 3, 1) := by decide +kernel
theorem dL_law_1105 : decode cL_law 1105 = .ok (.iconst 0, 1) := by decide +kernel
theorem dL_law_1106 : decode cL_law 1106 = .ok (.laload, 1) := by decide +kernel
theorem dL_law_1107 : decode cL_law 1107 = .ok (.iload 6, 2) := by decide +kernel
theorem dL_law_1109 : decode cL_law 1109 = .ok (.i2l, 1) := by decide +kernel
theorem dL_law_1110 : decode cL_law 1110 = .ok (.lcmp, 1) := by decide +kernel
theorem dL_law_1111 : decode cL_law 1111 = .ok (.ifCond .eq 5, 3) := by decide +kernel
theorem dL_law_1114 : decode cL_law 1114 = .ok (.iconst 0, 1) := by decide +kernel
theorem dL_law_1115 : decode cL_law 1115 = .ok (.ireturn, 1) := by decide +kernel
theorem dL_law_1116 : decode cL_law 1116 = .ok (.goto 58, 3) := by decide +kernel
theorem dL_law_1119 : decode cL_law 1119 = .ok (.aload_n 1, 1) := by decide +kernel
theorem dL_law_1120 : decode cL_law 1120 = .ok (.aload_n 0, 1) := by decide +kernel
theorem dL_law_1121 : decode cL_law 1121 = .ok (.iload 4, 2) := by decide +kernel
theorem dL_law_1123 : decode cL_law 1123 = .ok (.iconst 1, 1) := by decide +kernel
theorem dL_law_1124 : decode cL_law 1124 = .ok (.iadd, 1) := by decide +kernel
theorem dL_law_1125 : decode cL_law 1125 = .ok (.iaload, 1) := by decide +kernel
theorem dL_law_1126 : decode cL_law 1126 = .ok (.aload_n 3, 1) := by decide +kernel
theorem dL_law_1127 : decode cL_law 1127 = .ok (.invokestatic 130, 3) := by decide +kernel
theorem dL_law_1130 : decode cL_law 1130 = .ok (.istore 5, 2) := by decide +kernel
theorem dL_law_1132 : decode cL_law 1132 = .ok (.aload_n 2, 1) := by decide +kernel
theorem dL_law_1133 : decode cL_law 1133 = .ok (.aload_n 0, 1) := by decide +kernel
theorem dL_law_1134 : decode cL_law 1134 = .ok (.iload 4, 2) := by decide +kernel
theorem dL_law_1136 : decode cL_law 1136 = .ok (.iconst 1, 1) := by decide +kernel
theorem dL_law_1137 : decode cL_law 1137 = .ok (.iadd, 1) := by decide +kernel
theorem dL_law_1138 : decode cL_law 1138 = .ok (.iaload, 1) := by decide +kernel
theorem dL_law_1139 : decode cL_law 1139 = .ok (.invokevirtual 132, 3) := by decide +kernel
theorem dL_law_1142 : decode cL_law 1142 = .ok (.lstore 6, 2) := by decide +kernel
theorem dL_law_1144 : decode cL_law 1144 = .ok (.aload_n 2, 1) := by decide +kernel
theorem dL_law_1145 : decode cL_law 1145 = .ok (.invokevirtual 78, 3) := by decide +kernel
theorem dL_law_1148 : decode cL_law 1148 = .ok (.iload 5, 2) := by decide +kernel
theorem dL_law_1150 : decode cL_law 1150 = .ok (.if_icmp .eq 5, 3) := by decide +kernel
theorem dL_law_1153 : decode cL_law 1153 = .ok (.iconst 0, 1) := by decide +kernel
theorem dL_law_1154 : decode cL_law 1154 = .ok (.ireturn, 1) := by decide +kernel
theorem dL_law_1155 : decode cL_law 1155 = .ok (.iload 5, 2) := by decide +kernel
theorem dL_law_1157 : decode cL_law 1157 = .ok (.ifCond .ne 14, 3) := by decide +kernel
theorem dL_law_1160 : decode cL_law 1160 = .ok (.aload_n 3, 1) := by decide +kernel
theorem dL_law_1161 : decode cL_law 1161 = .ok (.iconst 0, 1) := by decide +kernel
theorem dL_law_1162 : decode cL_law 1162 = .ok (.laload, 1) := by decide +kernel
theorem dL_law_1163 : decode cL_law 1163 = .ok (.lload 6, 2) := by decide +kernel
theorem dL_law_1165 : decode cL_law 1165 = .ok (.lcmp, 1) := by decide +kernel
theorem dL_law_1166 : decode cL_law 1166 = .ok (.ifCond .eq 5, 3) := by decide +kernel
theorem dL_law_1169 : decode cL_law 1169 = .ok (.iconst 0, 1) := by decide +kernel
theorem dL_law_1170 : decode cL_law 1170 = .ok (.ireturn, 1) := by decide +kernel
theorem dL_law_1171 : decode cL_law 1171 = .ok (.goto 3, 3) := by decide +kernel
theorem dL_law_1174 : decode cL_law 1174 = .ok (.iinc 4 6, 3) := by decide +kernel
theorem dL_law_1177 : decode cL_law 1177 = .ok (.goto (-1154), 3) := by decide +kernel
theorem dL_law_1180 : decode cL_law 1180 = .ok (.iconst 1, 1) := by decide +kernel
theorem dL_law_1181 : decode cL_law 1181 = .ok (.ireturn, 1) := by decide +kernel
