theorem dX0_init_0 : decode cX0_init 0 = .ok (.aload_n 0, 1) := by decide +kernel
theorem dX0_init_1 : decode cX0_init 1 = .ok (.invokespecial 3, 3) := by decide +kernel
theorem dX0_init_4 : decode cX0_init 4 = .ok (.aload_n 0, 1) := by decide +kernel
theorem dX0_init_5 : decode cX0_init 5 = .ok (.iload_n 1, 1) := by decide +kernel
theorem dX0_init_6 : decode cX0_init 6 = .ok (.putfield 9, 3) := by decide +kernel
theorem dX0_init_9 : decode cX0_init 9 = .ok (.aload_n 0, 1) := by decide +kernel
theorem dX0_init_10 : decode cX0_init 10 = .ok (.iconst 2, 1) := by decide +kernel
theorem dX0_init_11 : decode cX0_init 11 = .ok (.newarray .int, 2) := by decide +kernel
theorem dX0_init_13 : decode cX0_init 13 = .ok (.dup, 1) := by decide +kernel
theorem dX0_init_14 : decode cX0_init 14 = .ok (.iconst 0, 1) := by decide +kernel
theorem dX0_init_15 : decode cX0_init 15 = .ok (.bipush 7, 2) := by decide +kernel
theorem dX0_init_17 : decode cX0_init 17 = .ok (.iastore, 1) := by decide +kernel
theorem dX0_init_18 : decode cX0_init 18 = .ok (.dup, 1) := by decide +kernel
theorem dX0_init_19 : decode cX0_init 19 = .ok (.iconst 1, 1) := by decide +kernel
theorem dX0_init_20 : decode cX0_init 20 = .ok (.bipush 7, 2) := by decide +kernel
theorem dX0_init_22 : decode cX0_init 22 = .ok (.iastore, 1) := by decide +kernel
theorem dX0_init_23 : decode cX0_init 23 = .ok (.putfield 15, 3) := by decide +kernel
theorem dX0_init_26 : decode cX0_init 26 = .ok (.aload_n 0, 1) := by decide +kernel
theorem dX0_init_27 : decode cX0_init 27 = .ok (.iconst 2, 1) := by decide +kernel
theorem dX0_init_28 : decode cX0_init 28 = .ok (.newarray .int, 2) := by decide +kernel
theorem dX0_init_30 : decode cX0_init 30 = .ok (.dup, 1) := by decide +kernel
theorem dX0_init_31 : decode cX0_init 31 = .ok (.iconst 0, 1) := by decide +kernel
theorem dX0_init_32 : decode cX0_init 32 = .ok (.iconst 2, 1) := by decide +kernel
theorem dX0_init_33 : decode cX0_init 33 = .ok (.iastore, 1) := by decide +kernel
theorem dX0_init_34 : decode cX0_init 34 = .ok (.dup, 1) := by decide +kernel
theorem dX0_init_35 : decode cX0_init 35 = .ok (.iconst 1, 1) := by decide +kernel
theorem dX0_init_36 : decode cX0_init 36 = .ok (.iconst 2, 1) := by decide +kernel
theorem dX0_init_37 : decode cX0_init 37 = .ok (.iastore, 1) := by decide +kernel
theorem dX0_init_38 : decode cX0_init 38 = .ok (.putfield 19, 3) := by decide +kernel
theorem dX0_init_41 : decode cX0_init 41 = .ok (.aload_n 0, 1) := by decide +kernel
theorem dX0_init_42 : decode cX0_init 42 = .ok (.iconst 0, 1) := by decide +kernel
theorem dX0_init_43 : decode cX0_init 43 = .ok (.putfield 22, 3) := by decide +kernel
theorem dX0_init_46 : decode cX0_init 46 = .ok (.aload_n 0, 1) := by decide +kernel
theorem dX0_init_47 : decode cX0_init 47 = .ok (.aconst_null, 1) := by decide +kernel
theorem dX0_init_48 : decode cX0_init 48 = .ok (.putfield 25, 3) := by decide +kernel
theorem dX0_init_51 : decode cX0_init 51 = .ok (.return_, 1) := by decide +kernel
theorem dX1_init_0 : decode cX1_init 0 = .ok (.aload_n 0, 1) := by decide +kernel
theorem dX1_init_1 : decode cX1_init 1 = .ok (.invokespecial 1, 3) := by decide +kernel
theorem dX1_init_4 : decode cX1_init 4 = .ok (.aload_n 0, 1) := by decide +kernel
theorem dX1_init_5 : decode cX1_init 5 = .ok (.aload_n 1, 1) := by decide +kernel
theorem dX1_init_6 : decode cX1_init 6 = .ok (.putfield 7, 3) := by decide +kernel
theorem dX1_init_9 : decode cX1_init 9 = .ok (.return_, 1) := by decide +kernel
theorem dX2_init_0 : decode cX2_init 0 = .ok (.aload_n 0, 1) := by decide +kernel
theorem dX2_init_1 : decode cX2_init 1 = .ok (.invokespecial 1, 3) := by decide +kernel
theorem dX2_init_4 : decode cX2_init 4 = .ok (.aload_n 0, 1) := by decide +kernel
theorem dX2_init_5 : decode cX2_init 5 = .ok (.iconst 0, 1) := by decide +kernel
theorem dX2_init_6 : decode cX2_init 6 = .ok (.putfield 7, 3) := by decide +kernel
theorem dX2_init_9 : decode cX2_init 9 = .ok (.aload_n 0, 1) := by decide +kernel
theorem dX2_init_10 : decode cX2_init 10 = .ok (.iconst 0, 1) := by decide +kernel
theorem dX2_init_11 : decode cX2_init 11 = .ok (.putfield 13, 3) := by decide +kernel
theorem dX2_init_14 : decode cX2_init 14 = .ok (.aload_n 0, 1) := by decide +kernel
theorem dX2_init_15 : decode cX2_init 15 = .ok (.aload_n 1, 1) := by decide +kernel
theorem dX2_init_16 : decode cX2_init 16 = .ok (.putfield 16, 3) := by decide +kernel
theorem dX2_init_19 : decode cX2_init 19 = .ok (.return_, 1) := by decide +kernel
theorem dX2_greaterBallot_0 : decode cX2_greaterBallot 0 = .ok (.aload_n 0, 1) := by decide +kernel
theorem dX2_greaterBallot_1 : decode cX2_greaterBallot 1 = .ok (.getfield 7, 3) := by decide +kernel
theorem dX2_greaterBallot_4 : decode cX2_greaterBallot 4 = .ok (.aload_n 0, 1) := by decide +kernel
theorem dX2_greaterBallot_5 : decode cX2_greaterBallot 5 = .ok (.getfield 13, 3) := by decide +kernel
theorem dX2_greaterBallot_8 : decode cX2_greaterBallot 8 = .ok (.invokestatic 20, 3) := by decide +kernel
theorem dX2_greaterBallot_11 : decode cX2_greaterBallot 11 = .ok (.ireturn, 1) := by decide +kernel
theorem dX2_accept_0 : decode cX2_accept 0 = .ok (.aload_n 0, 1) := by decide +kernel
theorem dX2_accept_1 : decode cX2_accept 1 = .ok (.iload_n 1, 1) := by decide +kernel
theorem dX2_accept_2 : decode cX2_accept 2 = .ok (.putfield 13, 3) := by decide +kernel
theorem dX2_accept_5 : decode cX2_accept 5 = .ok (.aload_n 0, 1) := by decide +kernel
theorem dX2_accept_6 : decode cX2_accept 6 = .ok (.aload_n 2, 1) := by decide +kernel
theorem dX2_accept_7 : decode cX2_accept 7 = .ok (.putfield 16, 3) := by decide +kernel
theorem dX2_accept_10 : decode cX2_accept 10 = .ok (.aload_n 0, 1) := by decide +kernel
theorem dX2_accept_11 : decode cX2_accept 11 = .ok (.iconst 0, 1) := by decide +kernel
theorem dX2_accept_12 : decode cX2_accept 12 = .ok (.putfield 7, 3) := by decide +kernel
theorem dX2_accept_15 : decode cX2_accept 15 = .ok (.return_, 1) := by decide +kernel
theorem dX2_catchUp_0 : decode cX2_catchUp 0 = .ok (.aload_n 1, 1) := by decide +kernel
theorem dX2_catchUp_1 : decode cX2_catchUp 1 = .ok (.getfield 13, 3) := by decide +kernel
theorem dX2_catchUp_4 : decode cX2_catchUp 4 = .ok (.aload_n 0, 1) := by decide +kernel
theorem dX2_catchUp_5 : decode cX2_catchUp 5 = .ok (.getfield 13, 3) := by decide +kernel
theorem dX2_catchUp_8 : decode cX2_catchUp 8 = .ok (.if_icmp .gt 5, 3) := by decide +kernel
theorem dX2_catchUp_11 : decode cX2_catchUp 11 = .ok (.iconst 0, 1) := by decide +kernel
theorem dX2_catchUp_12 : decode cX2_catchUp 12 = .ok (.ireturn, 1) := by decide +kernel
theorem dX2_catchUp_13 : decode cX2_catchUp 13 = .ok (.aload_n 0, 1) := by decide +kernel
theorem dX2_catchUp_14 : decode cX2_catchUp 14 = .ok (.aload_n 1, 1) := by decide +kernel
theorem dX2_catchUp_15 : decode cX2_catchUp 15 = .ok (.getfield 13, 3) := by decide +kernel
theorem dX2_catchUp_18 : decode cX2_catchUp 18 = .ok (.putfield 13, 3) := by decide +kernel
theorem dX2_catchUp_21 : decode cX2_catchUp 21 = .ok (.aload_n 0, 1) := by decide +kernel
theorem dX2_catchUp_22 : decode cX2_catchUp 22 = .ok (.aload_n 1, 1) := by decide +kernel
theorem dX2_catchUp_23 : decode cX2_catchUp 23 = .ok (.getfield 16, 3) := by decide +kernel
theorem dX2_catchUp_26 : decode cX2_catchUp 26 = .ok (.putfield 16, 3) := by decide +kernel
theorem dX2_catchUp_29 : decode cX2_catchUp 29 = .ok (.aload_n 0, 1) := by decide +kernel
theorem dX2_catchUp_30 : decode cX2_catchUp 30 = .ok (.aload_n 0, 1) := by decide +kernel
theorem dX2_catchUp_31 : decode cX2_catchUp 31 = .ok (.getfield 7, 3) := by decide +kernel
theorem dX2_catchUp_34 : decode cX2_catchUp 34 = .ok (.aload_n 1, 1) := by decide +kernel
theorem dX2_catchUp_35 : decode cX2_catchUp 35 = .ok (.getfield 7, 3) := by decide +kernel
theorem dX2_catchUp_38 : decode cX2_catchUp 38 = .ok (.invokestatic 20, 3) := by decide +kernel
theorem dX2_catchUp_41 : decode cX2_catchUp 41 = .ok (.putfield 7, 3) := by decide +kernel
theorem dX2_catchUp_44 : decode cX2_catchUp 44 = .ok (.iconst 1, 1) := by decide +kernel
theorem dX2_catchUp_45 : decode cX2_catchUp 45 = .ok (.ireturn, 1) := by decide +kernel
theorem dX3_init_0 : decode cX3_init 0 = .ok (.aload_n 0, 1) := by decide +kernel
theorem dX3_init_1 : decode cX3_init 1 = .ok (.invokespecial 3, 3) := by decide +kernel
theorem dX3_init_4 : decode cX3_init 4 = .ok (.aload_n 0, 1) := by decide +kernel
theorem dX3_init_5 : decode cX3_init 5 = .ok (.iload_n 1, 1) := by decide +kernel
theorem dX3_init_6 : decode cX3_init 6 = .ok (.putfield 9, 3) := by decide +kernel
theorem dX3_init_9 : decode cX3_init 9 = .ok (.aload_n 0, 1) := by decide +kernel
theorem dX3_init_10 : decode cX3_init 10 = .ok (.aload_n 2, 1) := by decide +kernel
theorem dX3_init_11 : decode cX3_init 11 = .ok (.getfield 15, 3) := by decide +kernel
theorem dX3_init_14 : decode cX3_init 14 = .ok (.putfield 18, 3) := by decide +kernel
theorem dX3_init_17 : decode cX3_init 17 = .ok (.aload_n 0, 1) := by decide +kernel
theorem dX3_init_18 : decode cX3_init 18 = .ok (.iload_n 3, 1) := by decide +kernel
theorem dX3_init_19 : decode cX3_init 19 = .ok (.putfield 21, 3) := by decide +kernel
theorem dX3_init_22 : decode cX3_init 22 = .ok (.aload_n 0, 1) := by decide +kernel
theorem dX3_init_23 : decode cX3_init 23 = .ok (.iload 4, 2) := by decide +kernel
theorem dX3_init_25 : decode cX3_init 25 = .ok (.putfield 24, 3) := by decide +kernel
theorem dX3_init_28 : decode cX3_init 28 = .ok (.aload_n 0, 1) := by decide +kernel
theorem dX3_init_29 : decode cX3_init 29 = .ok (.lload 5, 2) := by decide +kernel
theorem dX3_init_31 : decode cX3_init 31 = .ok (.putfield 27, 3) := by decide +kernel
theorem dX3_init_34 : decode cX3_init 34 = .ok (.aload_n 0, 1) := by decide +kernel
theorem dX3_init_35 : decode cX3_init 35 = .ok (.iconst 4, 1) := by decide +kernel
theorem dX3_init_36 : decode cX3_init 36 = .ok (.aload_n 2, 1) := by decide +kernel
theorem dX3_init_37 : decode cX3_init 37 = .ok (.getfield 31, 3) := by decide +kernel
theorem dX3_init_40 : decode cX3_init 40 = .ok (.imul, 1) := by decide +kernel
theorem dX3_init_41 : decode cX3_init 41 = .ok (.aload_n 2, 1) := by decide +kernel
theorem dX3_init_42 : decode cX3_init 42 = .ok (.getfield 15, 3) := by decide +kernel
theorem dX3_init_45 : decode cX3_init 45 = .ok (.iadd, 1) := by decide +kernel
theorem dX3_init_46 : decode cX3_init 46 = .ok (.putfield 34, 3) := by decide +kernel
theorem dX3_init_49 : decode cX3_init 49 = .ok (.aload_n 0, 1) := by decide +kernel
theorem dX3_init_50 : decode cX3_init 50 = .ok (.aload_n 2, 1) := by decide +kernel
theorem dX3_init_51 : decode cX3_init 51 = .ok (.getfield 37, 3) := by decide +kernel
theorem dX3_init_54 : decode cX3_init 54 = .ok (.iconst 0, 1) := by decide +kernel
theorem dX3_init_55 : decode cX3_init 55 = .ok (.iaload, 1) := by decide +kernel
theorem dX3_init_56 : decode cX3_init 56 = .ok (.putfield 41, 3) := by decide +kernel
theorem dX3_init_59 : decode cX3_init 59 = .ok (.aload_n 0, 1) := by decide +kernel
theorem dX3_init_60 : decode cX3_init 60 = .ok (.aload_n 2, 1) := by decide +kernel
theorem dX3_init_61 : decode cX3_init 61 = .ok (.getfield 44, 3) := by decide +kernel
theorem dX3_init_64 : decode cX3_init 64 = .ok (.iconst 1, 1) := by decide +kernel
theorem dX3_init_65 : decode cX3_init 65 = .ok (.iaload, 1) := by decide +kernel
theorem dX3_init_66 : decode cX3_init 66 = .ok (.putfield 47, 3) := by decide +kernel
theorem dX3_init_69 : decode cX3_init 69 = .ok (.aload_n 0, 1) := by decide +kernel
theorem dX3_init_70 : decode cX3_init 70 = .ok (.aload_n 2, 1) := by decide +kernel
theorem dX3_init_71 : decode cX3_init 71 = .ok (.getfield 37, 3) := by decide +kernel
theorem dX3_init_74 : decode cX3_init 74 = .ok (.iconst 1, 1) := by decide +kernel
theorem dX3_init_75 : decode cX3_init 75 = .ok (.iaload, 1) := by decide +kernel
theorem dX3_init_76 : decode cX3_init 76 = .ok (.putfield 50, 3) := by decide +kernel
theorem dX3_init_79 : decode cX3_init 79 = .ok (.aload_n 0, 1) := by decide +kernel
theorem dX3_init_80 : decode cX3_init 80 = .ok (.iconst 0, 1) := by decide +kernel
theorem dX3_init_81 : decode cX3_init 81 = .ok (.putfield 53, 3) := by decide +kernel
theorem dX3_init_84 : decode cX3_init 84 = .ok (.aload_n 0, 1) := by decide +kernel
theorem dX3_init_85 : decode cX3_init 85 = .ok (.iconst 0, 1) := by decide +kernel
theorem dX3_init_86 : decode cX3_init 86 = .ok (.putfield 57, 3) := by decide +kernel
theorem dX3_init_89 : decode cX3_init 89 = .ok (.aload_n 0, 1) := by decide +kernel
theorem dX3_init_90 : decode cX3_init 90 = .ok (.iconst 0, 1) := by decide +kernel
theorem dX3_init_91 : decode cX3_init 91 = .ok (.putfield 60, 3) := by decide +kernel
theorem dX3_init_94 : decode cX3_init 94 = .ok (.aload_n 0, 1) := by decide +kernel
theorem dX3_init_95 : decode cX3_init 95 = .ok (.aload 7, 2) := by decide +kernel
theorem dX3_init_97 : decode cX3_init 97 = .ok (.putfield 63, 3) := by decide +kernel
theorem dX3_init_100 : decode cX3_init 100 = .ok (.aload_n 0, 1) := by decide +kernel
theorem dX3_init_101 : decode cX3_init 101 = .ok (.iconst 0, 1) := by decide +kernel
theorem dX3_init_102 : decode cX3_init 102 = .ok (.putfield 67, 3) := by decide +kernel
theorem dX3_init_105 : decode cX3_init 105 = .ok (.aload_n 0, 1) := by decide +kernel
theorem dX3_init_106 : decode cX3_init 106 = .ok (.iconst 0, 1) := by decide +kernel
theorem dX3_init_107 : decode cX3_init 107 = .ok (.putfield 70, 3) := by decide +kernel
theorem dX3_init_110 : decode cX3_init 110 = .ok (.return_, 1) := by decide +kernel
theorem dX3_hasAnswer_0 : decode cX3_hasAnswer 0 = .ok (.aload_n 0, 1) := by decide +kernel
theorem dX3_hasAnswer_1 : decode cX3_hasAnswer 1 = .ok (.getfield 57, 3) := by decide +kernel
theorem dX3_hasAnswer_4 : decode cX3_hasAnswer 4 = .ok (.iconst 1, 1) := by decide +kernel
theorem dX3_hasAnswer_5 : decode cX3_hasAnswer 5 = .ok (.iload_n 1, 1) := by decide +kernel
theorem dX3_hasAnswer_6 : decode cX3_hasAnswer 6 = .ok (.ishl, 1) := by decide +kernel
theorem dX3_hasAnswer_7 : decode cX3_hasAnswer 7 = .ok (.iand, 1) := by decide +kernel
theorem dX3_hasAnswer_8 : decode cX3_hasAnswer 8 = .ok (.ifCond .eq 7, 3) := by decide +kernel
theorem dX3_hasAnswer_11 : decode cX3_hasAnswer 11 = .ok (.iconst 1, 1) := by decide +kernel
theorem dX3_hasAnswer_12 : decode cX3_hasAnswer 12 = .ok (.goto 4, 3) := by decide +kernel
theorem dX3_hasAnswer_15 : decode cX3_hasAnswer 15 = .ok (.iconst 0, 1) := by decide +kernel
theorem dX3_hasAnswer_16 : decode cX3_hasAnswer 16 = .ok (.ireturn, 1) := by decide +kernel
theorem dX3_countAnswer_0 : decode cX3_countAnswer 0 = .ok (.aload_n 0, 1) := by decide +kernel
theorem dX3_countAnswer_1 : decode cX3_countAnswer 1 = .ok (.dup, 1) := by decide +kernel
theorem dX3_countAnswer_2 : decode cX3_countAnswer 2 = .ok (.getfield 57, 3) := by decide +kernel
theorem dX3_countAnswer_5 : decode cX3_countAnswer 5 = .ok (.iconst 1, 1) := by decide +kernel
theorem dX3_countAnswer_6 : decode cX3_countAnswer 6 = .ok (.iload_n 1, 1) := by decide +kernel
theorem dX3_countAnswer_7 : decode cX3_countAnswer 7 = .ok (.ishl, 1) := by decide +kernel
theorem dX3_countAnswer_8 : decode cX3_countAnswer 8 = .ok (.ior, 1) := by decide +kernel
theorem dX3_countAnswer_9 : decode cX3_countAnswer 9 = .ok (.putfield 57, 3) := by decide +kernel
theorem dX3_countAnswer_12 : decode cX3_countAnswer 12 = .ok (.return_, 1) := by decide +kernel
set_option maxRecDepth 20000 in
theorem ggX3_answers_J6_bitCount_0f7a4 : GoodIn wsX3_answers wsJ6_bitCount_0f7a4 := goodIn_r _ [5, 6, 7, 8] (by decide +kernel) (by decide +kernel)
set_option maxRecDepth 20000 in
theorem gX3_answers_J6_bitCount_0f7a4 : GoodIn wsX3_answers (va_wsS RX3 73 yJ6_bitCount_0f7a4 wsJ6_bitCount_0f7a4) := goodIn_app (goodIn_of _ (by decide +kernel)) ggX3_answers_J6_bitCount_0f7a4
theorem dX3_answers_0 : decode cX3_answers 0 = .ok (.aload_n 0, 1) := by decide +kernel
theorem dX3_answers_1 : decode cX3_answers 1 = .ok (.getfield 57, 3) := by decide +kernel
theorem dX3_answers_4 : decode cX3_answers 4 = .ok (.invokestatic 73, 3) := by decide +kernel
theorem dX3_answers_7 : decode cX3_answers 7 = .ok (.ireturn, 1) := by decide +kernel
theorem dX3_hearState_0 : decode cX3_hearState 0 = .ok (.iload_n 1, 1) := by decide +kernel
theorem dX3_hearState_1 : decode cX3_hearState 1 = .ok (.aload_n 0, 1) := by decide +kernel
theorem dX3_hearState_2 : decode cX3_hearState 2 = .ok (.getfield 60, 3) := by decide +kernel
theorem dX3_hearState_5 : decode cX3_hearState 5 = .ok (.if_icmp .le 13, 3) := by decide +kernel
theorem dX3_hearState_8 : decode cX3_hearState 8 = .ok (.aload_n 0, 1) := by decide +kernel
theorem dX3_hearState_9 : decode cX3_hearState 9 = .ok (.iload_n 1, 1) := by decide +kernel
theorem dX3_hearState_10 : decode cX3_hearState 10 = .ok (.putfield 60, 3) := by decide +kernel
theorem dX3_hearState_13 : decode cX3_hearState 13 = .ok (.aload_n 0, 1) := by decide +kernel
theorem dX3_hearState_14 : decode cX3_hearState 14 = .ok (.aload_n 2, 1) := by decide +kernel
theorem dX3_hearState_15 : decode cX3_hearState 15 = .ok (.putfield 63, 3) := by decide +kernel
theorem dX3_hearState_18 : decode cX3_hearState 18 = .ok (.return_, 1) := by decide +kernel
set_option maxRecDepth 20000 in
theorem ggX3_beginAccepting_X5_fails : GoodIn wsX3_beginAccepting wsX5_fails := goodIn_r _ [10, 11, 12, 13, 45, 46, 47] (by decide +kernel) (by decide +kernel)
set_option maxRecDepth 20000 in
theorem gX3_beginAccepting_X5_fails_n79 : GoodIn wsX3_beginAccepting (wsX5_fails) := ggX3_beginAccepting_X5_fails
set_option maxRecDepth 20000 in
theorem ggX3_beginAccepting_X5_changed : GoodIn wsX3_beginAccepting wsX5_changed := goodIn_r _ [16, 13, 17, 18, 8, 19, 7, 9, 10, 11, 12, 20, 21, 22, 23, 24, 25, 26, 27, 28, 29, 45, 46, 47] (by decide +kernel) (by decide +kernel)
set_option maxRecDepth 20000 in
theorem gX3_beginAccepting_X5_changed_n85 : GoodIn wsX3_beginAccepting (wsX5_changed) := ggX3_beginAccepting_X5_changed
theorem dX3_beginAccepting_0 : decode cX3_beginAccepting 0 = .ok (.aload_n 0, 1) := by decide +kernel
theorem dX3_beginAccepting_1 : decode cX3_beginAccepting 1 = .ok (.aload_n 0, 1) := by decide +kernel
theorem dX3_beginAccepting_2 : decode cX3_beginAccepting 2 = .ok (.getfield 63, 3) := by decide +kernel
theorem dX3_beginAccepting_5 : decode cX3_beginAccepting 5 = .ok (.aload_n 0, 1) := by decide +kernel
theorem dX3_beginAccepting_6 : decode cX3_beginAccepting 6 = .ok (.getfield 24, 3) := by decide +kernel
theorem dX3_beginAccepting_9 : decode cX3_beginAccepting 9 = .ok (.aload_n 0, 1) := by decide +kernel
theorem dX3_beginAccepting_10 : decode cX3_beginAccepting 10 = .ok (.getfield 27, 3) := by decide +kernel
theorem dX3_beginAccepting_13 : decode cX3_beginAccepting 13 = .ok (.invokevirtual 79, 3) := by decide +kernel
theorem dX3_beginAccepting_16 : decode cX3_beginAccepting 16 = .ok (.putfield 67, 3) := by decide +kernel
theorem dX3_beginAccepting_19 : decode cX3_beginAccepting 19 = .ok (.aload_n 0, 1) := by decide +kernel
theorem dX3_beginAccepting_20 : decode cX3_beginAccepting 20 = .ok (.aload_n 0, 1) := by decide +kernel
theorem dX3_beginAccepting_21 : decode cX3_beginAccepting 21 = .ok (.getfield 63, 3) := by decide +kernel
theorem dX3_beginAccepting_24 : decode cX3_beginAccepting 24 = .ok (.aload_n 0, 1) := by decide +kernel
theorem dX3_beginAccepting_25 : decode cX3_beginAccepting 25 = .ok (.getfield 24, 3) := by decide +kernel
theorem dX3_beginAccepting_28 : decode cX3_beginAccepting 28 = .ok (.aload_n 0, 1) := by decide +kernel
theorem dX3_beginAccepting_29 : decode cX3_beginAccepting 29 = .ok (.getfield 27, 3) := by decide +kernel
theorem dX3_beginAccepting_32 : decode cX3_beginAccepting 32 = .ok (.invokevirtual 85, 3) := by decide +kernel
theorem dX3_beginAccepting_35 : decode cX3_beginAccepting 35 = .ok (.putfield 63, 3) := by decide +kernel
theorem dX3_beginAccepting_38 : decode cX3_beginAccepting 38 = .ok (.aload_n 0, 1) := by decide +kernel
theorem dX3_beginAccepting_39 : decode cX3_beginAccepting 39 = .ok (.iconst 1, 1) := by decide +kernel
theorem dX3_beginAccepting_40 : decode cX3_beginAccepting 40 = .ok (.putfield 53, 3) := by decide +kernel
theorem dX3_beginAccepting_43 : decode cX3_beginAccepting 43 = .ok (.aload_n 0, 1) := by decide +kernel
theorem dX3_beginAccepting_44 : decode cX3_beginAccepting 44 = .ok (.iconst 0, 1) := by decide +kernel
theorem dX3_beginAccepting_45 : decode cX3_beginAccepting 45 = .ok (.putfield 57, 3) := by decide +kernel
theorem dX3_beginAccepting_48 : decode cX3_beginAccepting 48 = .ok (.return_, 1) := by decide +kernel
set_option maxRecDepth 20000 in
theorem ggX4_init_X1_init : GoodIn wsX4_init wsX1_init := goodIn_r _ [10, 11, 2, 3, 12, 15, 16, 17, 18, 19, 20, 21] (by decide +kernel) (by decide +kernel)
set_option maxRecDepth 20000 in
theorem gX4_init_X1_init_n17 : GoodIn wsX4_init (wsX1_init) := ggX4_init_X1_init
theorem dX4_init_0 : decode cX4_init 0 = .ok (.aload_n 0, 1) := by decide +kernel
theorem dX4_init_1 : decode cX4_init 1 = .ok (.invokespecial 3, 3) := by decide +kernel
theorem dX4_init_4 : decode cX4_init 4 = .ok (.aload_n 0, 1) := by decide +kernel
theorem dX4_init_5 : decode cX4_init 5 = .ok (.sipush 301, 3) := by decide +kernel
theorem dX4_init_8 : decode cX4_init 8 = .ok (.anewarray 9, 3) := by decide +kernel
theorem dX4_init_11 : decode cX4_init 11 = .ok (.putfield 11, 3) := by decide +kernel
theorem dX4_init_14 : decode cX4_init 14 = .ok (.iconst 0, 1) := by decide +kernel
theorem dX4_init_15 : decode cX4_init 15 = .ok (.istore_n 2, 1) := by decide +kernel
theorem dX4_init_16 : decode cX4_init 16 = .ok (.iload_n 2, 1) := by decide +kernel
theorem dX4_init_17 : decode cX4_init 17 = .ok (.aload_n 0, 1) := by decide +kernel
theorem dX4_init_18 : decode cX4_init 18 = .ok (.getfield 11, 3) := by decide +kernel
theorem dX4_init_21 : decode cX4_init 21 = .ok (.arraylength, 1) := by decide +kernel
theorem dX4_init_22 : decode cX4_init 22 = .ok (.if_icmp .ge 23, 3) := by decide +kernel
theorem dX4_init_25 : decode cX4_init 25 = .ok (.aload_n 0, 1) := by decide +kernel
theorem dX4_init_26 : decode cX4_init 26 = .ok (.getfield 11, 3) := by decide +kernel
theorem dX4_init_29 : decode cX4_init 29 = .ok (.iload_n 2, 1) := by decide +kernel
theorem dX4_init_30 : decode cX4_init 30 = .ok (.new 9, 3) := by decide +kernel
theorem dX4_init_33 : decode cX4_init 33 = .ok (.dup, 1) := by decide +kernel
theorem dX4_init_34 : decode cX4_init 34 = .ok (.aload_n 1, 1) := by decide +kernel
theorem dX4_init_35 : decode cX4_init 35 = .ok (.invokespecial 17, 3) := by decide +kernel
theorem dX4_init_38 : decode cX4_init 38 = .ok (.aastore, 1) := by decide +kernel
theorem dX4_init_39 : decode cX4_init 39 = .ok (.iinc 2 1, 3) := by decide +kernel
theorem dX4_init_42 : decode cX4_init 42 = .ok (.goto (-26), 3) := by decide +kernel
theorem dX4_init_45 : decode cX4_init 45 = .ok (.aload_n 0, 1) := by decide +kernel
theorem dX4_init_46 : decode cX4_init 46 = .ok (.iconst 0, 1) := by decide +kernel
theorem dX4_init_47 : decode cX4_init 47 = .ok (.putfield 20, 3) := by decide +kernel
theorem dX4_init_50 : decode cX4_init 50 = .ok (.return_, 1) := by decide +kernel
theorem dX4_drawOut_0 : decode cX4_drawOut 0 = .ok (.aload_n 0, 1) := by decide +kernel
theorem dX4_drawOut_1 : decode cX4_drawOut 1 = .ok (.getfield 11, 3) := by decide +kernel
theorem dX4_drawOut_4 : decode cX4_drawOut 4 = .ok (.iload_n 1, 1) := by decide +kernel
theorem dX4_drawOut_5 : decode cX4_drawOut 5 = .ok (.aaload, 1) := by decide +kernel
theorem dX4_drawOut_6 : decode cX4_drawOut 6 = .ok (.astore_n 2, 1) := by decide +kernel
theorem dX4_drawOut_7 : decode cX4_drawOut 7 = .ok (.aload_n 0, 1) := by decide +kernel
theorem dX4_drawOut_8 : decode cX4_drawOut 8 = .ok (.dup, 1) := by decide +kernel
theorem dX4_drawOut_9 : decode cX4_drawOut 9 = .ok (.getfield 20, 3) := by decide +kernel
theorem dX4_drawOut_12 : decode cX4_drawOut 12 = .ok (.iconst 1, 1) := by decide +kernel
theorem dX4_drawOut_13 : decode cX4_drawOut 13 = .ok (.isub, 1) := by decide +kernel
theorem dX4_drawOut_14 : decode cX4_drawOut 14 = .ok (.putfield 20, 3) := by decide +kernel
theorem dX4_drawOut_17 : decode cX4_drawOut 17 = .ok (.iload_n 1, 1) := by decide +kernel
theorem dX4_drawOut_18 : decode cX4_drawOut 18 = .ok (.istore_n 3, 1) := by decide +kernel
theorem dX4_drawOut_19 : decode cX4_drawOut 19 = .ok (.iload_n 3, 1) := by decide +kernel
theorem dX4_drawOut_20 : decode cX4_drawOut 20 = .ok (.aload_n 0, 1) := by decide +kernel
theorem dX4_drawOut_21 : decode cX4_drawOut 21 = .ok (.getfield 20, 3) := by decide +kernel
theorem dX4_drawOut_24 : decode cX4_drawOut 24 = .ok (.if_icmp .ge 23, 3) := by decide +kernel
theorem dX4_drawOut_27 : decode cX4_drawOut 27 = .ok (.aload_n 0, 1) := by decide +kernel
theorem dX4_drawOut_28 : decode cX4_drawOut 28 = .ok (.getfield 11, 3) := by decide +kernel
theorem dX4_drawOut_31 : decode cX4_drawOut 31 = .ok (.iload_n 3, 1) := by decide +kernel
theorem dX4_drawOut_32 : decode cX4_drawOut 32 = .ok (.aload_n 0, 1) := by decide +kernel
theorem dX4_drawOut_33 : decode cX4_drawOut 33 = .ok (.getfield 11, 3) := by decide +kernel
theorem dX4_drawOut_36 : decode cX4_drawOut 36 = .ok (.iload_n 3, 1) := by decide +kernel
theorem dX4_drawOut_37 : decode cX4_drawOut 37 = .ok (.iconst 1, 1) := by decide +kernel
theorem dX4_drawOut_38 : decode cX4_drawOut 38 = .ok (.iadd, 1) := by decide +kernel
theorem dX4_drawOut_39 : decode cX4_drawOut 39 = .ok (.aaload, 1) := by decide +kernel
theorem dX4_drawOut_40 : decode cX4_drawOut 40 = .ok (.aastore, 1) := by decide +kernel
theorem dX4_drawOut_41 : decode cX4_drawOut 41 = .ok (.iinc 3 1, 3) := by decide +kernel
theorem dX4_drawOut_44 : decode cX4_drawOut 44 = .ok (.goto (-25), 3) := by decide +kernel
theorem dX4_drawOut_47 : decode cX4_drawOut 47 = .ok (.aload_n 0, 1) := by decide +kernel
theorem dX4_drawOut_48 : decode cX4_drawOut 48 = .ok (.getfield 11, 3) := by decide +kernel
theorem dX4_drawOut_51 : decode cX4_drawOut 51 = .ok (.aload_n 0, 1) := by decide +kernel
theorem dX4_drawOut_52 : decode cX4_drawOut 52 = .ok (.getfield 20, 3) := by decide +kernel
theorem dX4_drawOut_55 : decode cX4_drawOut 55 = .ok (.aload_n 0, 1) := by decide +kernel
theorem dX4_drawOut_56 : decode cX4_drawOut 56 = .ok (.getfield 11, 3) := by decide +kernel
theorem dX4_drawOut_59 : decode cX4_drawOut 59 = .ok (.sipush 300, 3) := by decide +kernel
theorem dX4_drawOut_62 : decode cX4_drawOut 62 = .ok (.aaload, 1) := by decide +kernel
theorem dX4_drawOut_63 : decode cX4_drawOut 63 = .ok (.aastore, 1) := by decide +kernel
theorem dX4_drawOut_64 : decode cX4_drawOut 64 = .ok (.aload_n 0, 1) := by decide +kernel
theorem dX4_drawOut_65 : decode cX4_drawOut 65 = .ok (.getfield 11, 3) := by decide +kernel
theorem dX4_drawOut_68 : decode cX4_drawOut 68 = .ok (.sipush 300, 3) := by decide +kernel
theorem dX4_drawOut_71 : decode cX4_drawOut 71 = .ok (.aload_n 2, 1) := by decide +kernel
theorem dX4_drawOut_72 : decode cX4_drawOut 72 = .ok (.aastore, 1) := by decide +kernel
theorem dX4_drawOut_73 : decode cX4_drawOut 73 = .ok (.aload_n 2, 1) := by decide +kernel
theorem dX4_drawOut_74 : decode cX4_drawOut 74 = .ok (.areturn, 1) := by decide +kernel
theorem dX4_send_0 : decode cX4_send 0 = .ok (.aload_n 0, 1) := by decide +kernel
theorem dX4_send_1 : decode cX4_send 1 = .ok (.getfield 20, 3) := by decide +kernel
theorem dX4_send_4 : decode cX4_send 4 = .ok (.sipush 300, 3) := by decide +kernel
theorem dX4_send_7 : decode cX4_send 7 = .ok (.if_icmp .lt 4, 3) := by decide +kernel
theorem dX4_send_10 : decode cX4_send 10 = .ok (.return_, 1) := by decide +kernel
theorem dX4_send_11 : decode cX4_send 11 = .ok (.aload_n 0, 1) := by decide +kernel
theorem dX4_send_12 : decode cX4_send 12 = .ok (.getfield 11, 3) := by decide +kernel
theorem dX4_send_15 : decode cX4_send 15 = .ok (.aload_n 0, 1) := by decide +kernel
theorem dX4_send_16 : decode cX4_send 16 = .ok (.getfield 20, 3) := by decide +kernel
theorem dX4_send_19 : decode cX4_send 19 = .ok (.aaload, 1) := by decide +kernel
theorem dX4_send_20 : decode cX4_send 20 = .ok (.astore 8, 2) := by decide +kernel
theorem dX4_send_22 : decode cX4_send 22 = .ok (.aload_n 0, 1) := by decide +kernel
theorem dX4_send_23 : decode cX4_send 23 = .ok (.dup, 1) := by decide +kernel
theorem dX4_send_24 : decode cX4_send 24 = .ok (.getfield 20, 3) := by decide +kernel
theorem dX4_send_27 : decode cX4_send 27 = .ok (.iconst 1, 1) := by decide +kernel
theorem dX4_send_28 : decode cX4_send 28 = .ok (.iadd, 1) := by decide +kernel
theorem dX4_send_29 : decode cX4_send 29 = .ok (.putfield 20, 3) := by decide +kernel
theorem dX4_send_32 : decode cX4_send 32 = .ok (.aload 8, 2) := by decide +kernel
theorem dX4_send_34 : decode cX4_send 34 = .ok (.iload_n 1, 1) := by decide +kernel
theorem dX4_send_35 : decode cX4_send 35 = .ok (.putfield 24, 3) := by decide +kernel
theorem dX4_send_38 : decode cX4_send 38 = .ok (.aload 8, 2) := by decide +kernel
theorem dX4_send_40 : decode cX4_send 40 = .ok (.iload_n 2, 1) := by decide +kernel
theorem dX4_send_41 : decode cX4_send 41 = .ok (.putfield 27, 3) := by decide +kernel
theorem dX4_send_44 : decode cX4_send 44 = .ok (.aload 8, 2) := by decide +kernel
theorem dX4_send_46 : decode cX4_send 46 = .ok (.iload_n 3, 1) := by decide +kernel
theorem dX4_send_47 : decode cX4_send 47 = .ok (.putfield 30, 3) := by decide +kernel
theorem dX4_send_50 : decode cX4_send 50 = .ok (.aload 8, 2) := by decide +kernel
theorem dX4_send_52 : decode cX4_send 52 = .ok (.iload 4, 2) := by decide +kernel
theorem dX4_send_54 : decode cX4_send 54 = .ok (.putfield 33, 3) := by decide +kernel
theorem dX4_send_57 : decode cX4_send 57 = .ok (.aload 8, 2) := by decide +kernel
theorem dX4_send_59 : decode cX4_send 59 = .ok (.iload 5, 2) := by decide +kernel
theorem dX4_send_61 : decode cX4_send 61 = .ok (.putfield 36, 3) := by decide +kernel
theorem dX4_send_64 : decode cX4_send 64 = .ok (.aload 8, 2) := by decide +kernel
theorem dX4_send_66 : decode cX4_send 66 = .ok (.iload 6, 2) := by decide +kernel
theorem dX4_send_68 : decode cX4_send 68 = .ok (.putfield 39, 3) := by decide +kernel
theorem dX4_send_71 : decode cX4_send 71 = .ok (.aload 8, 2) := by decide +kernel
theorem dX4_send_73 : decode cX4_send 73 = .ok (.aload 7, 2) := by decide +kernel
theorem dX4_send_75 : decode cX4_send 75 = .ok (.putfield 42, 3) := by decide +kernel
theorem dX4_send_78 : decode cX4_send 78 = .ok (.return_, 1) := by decide +kernel
theorem dX5_init_0 : decode cX5_init 0 = .ok (.aload_n 0, 1) := by decide +kernel
theorem dX5_init_1 : decode cX5_init 1 = .ok (.invokespecial 3, 3) := by decide +kernel
theorem dX5_init_4 : decode cX5_init 4 = .ok (.aload_n 0, 1) := by decide +kernel
theorem dX5_init_5 : decode cX5_init 5 = .ok (.iload_n 1, 1) := by decide +kernel
theorem dX5_init_6 : decode cX5_init 6 = .ok (.putfield 9, 3) := by decide +kernel
theorem dX5_init_9 : decode cX5_init 9 = .ok (.aload_n 0, 1) := by decide +kernel
theorem dX5_init_10 : decode cX5_init 10 = .ok (.iload_n 2, 1) := by decide +kernel
theorem dX5_init_11 : decode cX5_init 11 = .ok (.putfield 15, 3) := by decide +kernel
theorem dX5_init_14 : decode cX5_init 14 = .ok (.aload_n 0, 1) := by decide +kernel
theorem dX5_init_15 : decode cX5_init 15 = .ok (.lload_n 3, 1) := by decide +kernel
theorem dX5_init_16 : decode cX5_init 16 = .ok (.putfield 19, 3) := by decide +kernel
theorem dX5_init_19 : decode cX5_init 19 = .ok (.return_, 1) := by decide +kernel
theorem dX5_versionOrNone_0 : decode cX5_versionOrNone 0 = .ok (.aload_n 0, 1) := by decide +kernel
theorem dX5_versionOrNone_1 : decode cX5_versionOrNone 1 = .ok (.getfield 9, 3) := by decide +kernel
theorem dX5_versionOrNone_4 : decode cX5_versionOrNone 4 = .ok (.ifCond .eq 10, 3) := by decide +kernel
theorem dX5_versionOrNone_7 : decode cX5_versionOrNone 7 = .ok (.aload_n 0, 1) := by decide +kernel
theorem dX5_versionOrNone_8 : decode cX5_versionOrNone 8 = .ok (.getfield 15, 3) := by decide +kernel
theorem dX5_versionOrNone_11 : decode cX5_versionOrNone 11 = .ok (.goto 4, 3) := by decide +kernel
theorem dX5_versionOrNone_14 : decode cX5_versionOrNone 14 = .ok (.iconst (-1), 1) := by decide +kernel
theorem dX5_versionOrNone_15 : decode cX5_versionOrNone 15 = .ok (.ireturn, 1) := by decide +kernel
theorem dX5_fails_0 : decode cX5_fails 0 = .ok (.iload_n 1, 1) := by decide +kernel
theorem dX5_fails_1 : decode cX5_fails 1 = .ok (.tableswitch 104 1 6 #[39, 104, 44, 104, 69, 82], 39) := by decide +kernel
theorem dX5_fails_40 : decode cX5_fails 40 = .ok (.aload_n 0, 1) := by decide +kernel
theorem dX5_fails_41 : decode cX5_fails 41 = .ok (.getfield 9, 3) := by decide +kernel
theorem dX5_fails_44 : decode cX5_fails 44 = .ok (.ireturn, 1) := by decide +kernel
theorem dX5_fails_45 : decode cX5_fails 45 = .ok (.aload_n 0, 1) := by decide +kernel
theorem dX5_fails_46 : decode cX5_fails 46 = .ok (.getfield 9, 3) := by decide +kernel
theorem dX5_fails_49 : decode cX5_fails 49 = .ok (.ifCond .eq 15, 3) := by decide +kernel
theorem dX5_fails_52 : decode cX5_fails 52 = .ok (.aload_n 0, 1) := by decide +kernel
theorem dX5_fails_53 : decode cX5_fails 53 = .ok (.getfield 15, 3) := by decide +kernel
theorem dX5_fails_56 : decode cX5_fails 56 = .ok (.lload_n 2, 1) := by decide +kernel
theorem dX5_fails_57 : decode cX5_fails 57 = .ok (.bipush 32, 2) := by decide +kernel
theorem dX5_fails_59 : decode cX5_fails 59 = .ok (.lshr, 1) := by decide +kernel
theorem dX5_fails_60 : decode cX5_fails 60 = .ok (.l2i, 1) := by decide +kernel
theorem dX5_fails_61 : decode cX5_fails 61 = .ok (.if_icmp .eq 7, 3) := by decide +kernel
theorem dX5_fails_64 : decode cX5_fails 64 = .ok (.iconst 1, 1) := by decide +kernel
theorem dX5_fails_65 : decode cX5_fails 65 = .ok (.goto 4, 3) := by decide +kernel
theorem dX5_fails_68 : decode cX5_fails 68 = .ok (.iconst 0, 1) := by decide +kernel
theorem dX5_fails_69 : decode cX5_fails 69 = .ok (.ireturn, 1) := by decide +kernel
theorem dX5_fails_70 : decode cX5_fails 70 = .ok (.aload_n 0, 1) := by decide +kernel
theorem dX5_fails_71 : decode cX5_fails 71 = .ok (.getfield 9, 3) := by decide +kernel
theorem dX5_fails_74 : decode cX5_fails 74 = .ok (.ifCond .ne 7, 3) := by decide +kernel
theorem dX5_fails_77 : decode cX5_fails 77 = .ok (.iconst 1, 1) := by decide +kernel
theorem dX5_fails_78 : decode cX5_fails 78 = .ok (.goto 4, 3) := by decide +kernel
theorem dX5_fails_81 : decode cX5_fails 81 = .ok (.iconst 0, 1) := by decide +kernel
theorem dX5_fails_82 : decode cX5_fails 82 = .ok (.ireturn, 1) := by decide +kernel
theorem dX5_fails_83 : decode cX5_fails 83 = .ok (.aload_n 0, 1) := by decide +kernel
theorem dX5_fails_84 : decode cX5_fails 84 = .ok (.getfield 9, 3) := by decide +kernel
theorem dX5_fails_87 : decode cX5_fails 87 = .ok (.ifCond .eq 16, 3) := by decide +kernel
theorem dX5_fails_90 : decode cX5_fails 90 = .ok (.aload_n 0, 1) := by decide +kernel
theorem dX5_fails_91 : decode cX5_fails 91 = .ok (.getfield 19, 3) := by decide +kernel
theorem dX5_fails_94 : decode cX5_fails 94 = .ok (.lload_n 2, 1) := by decide +kernel
theorem dX5_fails_95 : decode cX5_fails 95 = .ok (.lcmp, 1) := by decide +kernel
theorem dX5_fails_96 : decode cX5_fails 96 = .ok (.ifCond .lt 7, 3) := by decide +kernel
theorem dX5_fails_99 : decode cX5_fails 99 = .ok (.iconst 1, 1) := by decide +kernel
theorem dX5_fails_100 : decode cX5_fails 100 = .ok (.goto 4, 3) := by decide +kernel
theorem dX5_fails_103 : decode cX5_fails 103 = .ok (.iconst 0, 1) := by decide +kernel
theorem dX5_fails_104 : decode cX5_fails 104 = .ok (.ireturn, 1) := by decide +kernel
theorem dX5_fails_105 : decode cX5_fails 105 = .ok (.iconst 0, 1) := by decide +kernel
theorem dX5_fails_106 : decode cX5_fails 106 = .ok (.ireturn, 1) := by decide +kernel
set_option maxRecDepth 20000 in
theorem ggX5_changed_X5_fails : GoodIn wsX5_changed wsX5_fails := goodIn_r _ [8, 9, 10, 1, 21, 22, 23] (by decide +kernel) (by decide +kernel)
set_option maxRecDepth 20000 in
theorem gX5_changed_X5_fails : GoodIn wsX5_changed (wsV RX5 23 RX5 yX5_fails wsX5_fails) := goodIn_app (goodIn_of _ (by decide +kernel)) ggX5_changed_X5_fails
set_option maxRecDepth 20000 in
theorem ggX5_changed_X5_next : GoodIn wsX5_changed wsX5_next := goodIn_r _ [14, 2, 3, 4, 10, 15, 16, 17, 18, 19, 20, 9, 1, 21, 22, 23] (by decide +kernel) (by decide +kernel)
set_option maxRecDepth 20000 in
theorem gX5_changed_X5_next : GoodIn wsX5_changed (wsV RX5 27 RX5 yX5_next wsX5_next) := goodIn_app (goodIn_of _ (by decide +kernel)) ggX5_changed_X5_next
set_option maxRecDepth 20000 in
theorem ggX5_changed_X5_init : GoodIn wsX5_changed wsX5_init := goodIn_r _ [17, 18, 19, 20, 9, 10, 1, 21, 22, 23] (by decide +kernel) (by decide +kernel)
set_option maxRecDepth 20000 in
theorem gX5_changed_X5_init : GoodIn wsX5_changed (wsX5_init) := ggX5_changed_X5_init
theorem dX5_changed_0 : decode cX5_changed 0 = .ok (.aload_n 0, 1) := by decide +kernel
theorem dX5_changed_1 : decode cX5_changed 1 = .ok (.iload_n 1, 1) := by decide +kernel
theorem dX5_changed_2 : decode cX5_changed 2 = .ok (.lload_n 2, 1) := by decide +kernel
theorem dX5_changed_3 : decode cX5_changed 3 = .ok (.invokevirtual 23, 3) := by decide +kernel
theorem dX5_changed_6 : decode cX5_changed 6 = .ok (.ifCond .eq 5, 3) := by decide +kernel
theorem dX5_changed_9 : decode cX5_changed 9 = .ok (.aload_n 0, 1) := by decide +kernel
theorem dX5_changed_10 : decode cX5_changed 10 = .ok (.areturn, 1) := by decide +kernel
theorem dX5_changed_11 : decode cX5_changed 11 = .ok (.iload_n 1, 1) := by decide +kernel
theorem dX5_changed_12 : decode cX5_changed 12 = .ok (.tableswitch 76 0 6 #[44, 76, 76, 46, 54, 65, 76], 44) := by decide +kernel
theorem dX5_changed_56 : decode cX5_changed 56 = .ok (.aload_n 0, 1) := by decide +kernel
theorem dX5_changed_57 : decode cX5_changed 57 = .ok (.areturn, 1) := by decide +kernel
theorem dX5_changed_58 : decode cX5_changed 58 = .ok (.aload_n 0, 1) := by decide +kernel
theorem dX5_changed_59 : decode cX5_changed 59 = .ok (.lload_n 2, 1) := by decide +kernel
theorem dX5_changed_60 : decode cX5_changed 60 = .ok (.l2i, 1) := by decide +kernel
theorem dX5_changed_61 : decode cX5_changed 61 = .ok (.i2l, 1) := by decide +kernel
theorem dX5_changed_62 : decode cX5_changed 62 = .ok (.invokevirtual 27, 3) := by decide +kernel
theorem dX5_changed_65 : decode cX5_changed 65 = .ok (.areturn, 1) := by decide +kernel
theorem dX5_changed_66 : decode cX5_changed 66 = .ok (.aload_n 0, 1) := by decide +kernel
theorem dX5_changed_67 : decode cX5_changed 67 = .ok (.aload_n 0, 1) := by decide +kernel
theorem dX5_changed_68 : decode cX5_changed 68 = .ok (.getfield 19, 3) := by decide +kernel
theorem dX5_changed_71 : decode cX5_changed 71 = .ok (.lload_n 2, 1) := by decide +kernel
theorem dX5_changed_72 : decode cX5_changed 72 = .ok (.ladd, 1) := by decide +kernel
theorem dX5_changed_73 : decode cX5_changed 73 = .ok (.invokevirtual 27, 3) := by decide +kernel
theorem dX5_changed_76 : decode cX5_changed 76 = .ok (.areturn, 1) := by decide +kernel
theorem dX5_changed_77 : decode cX5_changed 77 = .ok (.new 10, 3) := by decide +kernel
theorem dX5_changed_80 : decode cX5_changed 80 = .ok (.dup, 1) := by decide +kernel
theorem dX5_changed_81 : decode cX5_changed 81 = .ok (.iconst 0, 1) := by decide +kernel
theorem dX5_changed_82 : decode cX5_changed 82 = .ok (.iconst 0, 1) := by decide +kernel
theorem dX5_changed_83 : decode cX5_changed 83 = .ok (.lconst 0, 1) := by decide +kernel
theorem dX5_changed_84 : decode cX5_changed 84 = .ok (.invokespecial 31, 3) := by decide +kernel
theorem dX5_changed_87 : decode cX5_changed 87 = .ok (.areturn, 1) := by decide +kernel
theorem dX5_changed_88 : decode cX5_changed 88 = .ok (.aload_n 0, 1) := by decide +kernel
theorem dX5_changed_89 : decode cX5_changed 89 = .ok (.lload_n 2, 1) := by decide +kernel
theorem dX5_changed_90 : decode cX5_changed 90 = .ok (.invokevirtual 27, 3) := by decide +kernel
theorem dX5_changed_93 : decode cX5_changed 93 = .ok (.areturn, 1) := by decide +kernel
set_option maxRecDepth 20000 in
theorem ggX5_next_X5_init : GoodIn wsX5_next wsX5_init := goodIn_r _ [7, 8, 9, 10, 11, 4, 12, 13, 14, 15] (by decide +kernel) (by decide +kernel)
set_option maxRecDepth 20000 in
theorem gX5_next_X5_init : GoodIn wsX5_next (wsX5_init) := ggX5_next_X5_init
theorem dX5_next_0 : decode cX5_next 0 = .ok (.new 10, 3) := by decide +kernel
theorem dX5_next_3 : decode cX5_next 3 = .ok (.dup, 1) := by decide +kernel
theorem dX5_next_4 : decode cX5_next 4 = .ok (.iconst 1, 1) := by decide +kernel
theorem dX5_next_5 : decode cX5_next 5 = .ok (.aload_n 0, 1) := by decide +kernel
theorem dX5_next_6 : decode cX5_next 6 = .ok (.getfield 15, 3) := by decide +kernel
theorem dX5_next_9 : decode cX5_next 9 = .ok (.iconst 1, 1) := by decide +kernel
theorem dX5_next_10 : decode cX5_next 10 = .ok (.iadd, 1) := by decide +kernel
theorem dX5_next_11 : decode cX5_next 11 = .ok (.lload_n 1, 1) := by decide +kernel
theorem dX5_next_12 : decode cX5_next 12 = .ok (.invokespecial 31, 3) := by decide +kernel
theorem dX5_next_15 : decode cX5_next 15 = .ok (.areturn, 1) := by decide +kernel
set_option maxRecDepth 20000 in
theorem ggX6_init_X5_init : GoodIn wsX6_init wsX5_init := goodIn_r _ [26, 27, 2, 3, 28, 29, 30, 58, 59, 60] (by decide +kernel) (by decide +kernel)
set_option maxRecDepth 20000 in
theorem gX6_init_X5_init_n9 : GoodIn wsX6_init (wsX5_init) := ggX6_init_X5_init
set_option maxRecDepth 20000 in
theorem ggX6_init_X2_init : GoodIn wsX6_init wsX2_init := goodIn_r _ [32, 33, 2, 3, 34, 35, 36, 68, 69, 70] (by decide +kernel) (by decide +kernel)
set_option maxRecDepth 20000 in
theorem gX6_init_X2_init_n24 : GoodIn wsX6_init (wsX2_init) := ggX6_init_X2_init
set_option maxRecDepth 20000 in
theorem ggX6_init_X0_init : GoodIn wsX6_init wsX0_init := goodIn_r _ [38, 39, 2, 3, 40, 41, 42, 43, 44, 45, 71, 72, 73, 74, 75] (by decide +kernel) (by decide +kernel)
set_option maxRecDepth 20000 in
theorem gX6_init_X0_init_n37 : GoodIn wsX6_init (wsX0_init) := ggX6_init_X0_init
set_option maxRecDepth 20000 in
theorem ggX6_init_X4_init : GoodIn wsX6_init wsX4_init := goodIn_r _ [47, 48, 2, 3, 49, 50, 51, 52, 53, 54, 55, 56, 57, 76, 77, 78, 79, 80, 81, 82, 83, 84] (by decide +kernel) (by decide +kernel)
set_option maxRecDepth 20000 in
theorem gX6_init_X4_init_n48 : GoodIn wsX6_init (wsX4_init) := ggX6_init_X4_init
theorem dX6_init_0 : decode cX6_init 0 = .ok (.aload_n 0, 1) := by decide +kernel
theorem dX6_init_1 : decode cX6_init 1 = .ok (.invokespecial 1, 3) := by decide +kernel
theorem dX6_init_4 : decode cX6_init 4 = .ok (.aload_n 0, 1) := by decide +kernel
theorem dX6_init_5 : decode cX6_init 5 = .ok (.new 7, 3) := by decide +kernel
theorem dX6_init_8 : decode cX6_init 8 = .ok (.dup, 1) := by decide +kernel
theorem dX6_init_9 : decode cX6_init 9 = .ok (.iconst 0, 1) := by decide +kernel
theorem dX6_init_10 : decode cX6_init 10 = .ok (.iconst 0, 1) := by decide +kernel
theorem dX6_init_11 : decode cX6_init 11 = .ok (.lconst 0, 1) := by decide +kernel
theorem dX6_init_12 : decode cX6_init 12 = .ok (.invokespecial 9, 3) := by decide +kernel
theorem dX6_init_15 : decode cX6_init 15 = .ok (.putfield 12, 3) := by decide +kernel
theorem dX6_init_18 : decode cX6_init 18 = .ok (.aload_n 0, 1) := by decide +kernel
theorem dX6_init_19 : decode cX6_init 19 = .ok (.bipush 36, 2) := by decide +kernel
theorem dX6_init_21 : decode cX6_init 21 = .ok (.anewarray 18, 3) := by decide +kernel
theorem dX6_init_24 : decode cX6_init 24 = .ok (.putfield 20, 3) := by decide +kernel
theorem dX6_init_27 : decode cX6_init 27 = .ok (.iconst 0, 1) := by decide +kernel
theorem dX6_init_28 : decode cX6_init 28 = .ok (.istore_n 1, 1) := by decide +kernel
theorem dX6_init_29 : decode cX6_init 29 = .ok (.iload_n 1, 1) := by decide +kernel
theorem dX6_init_30 : decode cX6_init 30 = .ok (.aload_n 0, 1) := by decide +kernel
theorem dX6_init_31 : decode cX6_init 31 = .ok (.getfield 20, 3) := by decide +kernel
theorem dX6_init_34 : decode cX6_init 34 = .ok (.arraylength, 1) := by decide +kernel
theorem dX6_init_35 : decode cX6_init 35 = .ok (.if_icmp .ge 26, 3) := by decide +kernel
theorem dX6_init_38 : decode cX6_init 38 = .ok (.aload_n 0, 1) := by decide +kernel
theorem dX6_init_39 : decode cX6_init 39 = .ok (.getfield 20, 3) := by decide +kernel
theorem dX6_init_42 : decode cX6_init 42 = .ok (.iload_n 1, 1) := by decide +kernel
theorem dX6_init_43 : decode cX6_init 43 = .ok (.new 18, 3) := by decide +kernel
theorem dX6_init_46 : decode cX6_init 46 = .ok (.dup, 1) := by decide +kernel
theorem dX6_init_47 : decode cX6_init 47 = .ok (.aload_n 0, 1) := by decide +kernel
theorem dX6_init_48 : decode cX6_init 48 = .ok (.getfield 12, 3) := by decide +kernel
theorem dX6_init_51 : decode cX6_init 51 = .ok (.invokespecial 24, 3) := by decide +kernel
theorem dX6_init_54 : decode cX6_init 54 = .ok (.aastore, 1) := by decide +kernel
theorem dX6_init_55 : decode cX6_init 55 = .ok (.iinc 1 1, 3) := by decide +kernel
theorem dX6_init_58 : decode cX6_init 58 = .ok (.goto (-29), 3) := by decide +kernel
theorem dX6_init_61 : decode cX6_init 61 = .ok (.aload_n 0, 1) := by decide +kernel
theorem dX6_init_62 : decode cX6_init 62 = .ok (.bipush 9, 2) := by decide +kernel
theorem dX6_init_64 : decode cX6_init 64 = .ok (.newarray .boolean, 2) := by decide +kernel
theorem dX6_init_66 : decode cX6_init 66 = .ok (.putfield 27, 3) := by decide +kernel
theorem dX6_init_69 : decode cX6_init 69 = .ok (.aload_n 0, 1) := by decide +kernel
theorem dX6_init_70 : decode cX6_init 70 = .ok (.iconst 4, 1) := by decide +kernel
theorem dX6_init_71 : decode cX6_init 71 = .ok (.anewarray 31, 3) := by decide +kernel
theorem dX6_init_74 : decode cX6_init 74 = .ok (.putfield 33, 3) := by decide +kernel
theorem dX6_init_77 : decode cX6_init 77 = .ok (.iconst 0, 1) := by decide +kernel
theorem dX6_init_78 : decode cX6_init 78 = .ok (.istore_n 1, 1) := by decide +kernel
theorem dX6_init_79 : decode cX6_init 79 = .ok (.iload_n 1, 1) := by decide +kernel
theorem dX6_init_80 : decode cX6_init 80 = .ok (.iconst 4, 1) := by decide +kernel
theorem dX6_init_81 : decode cX6_init 81 = .ok (.if_icmp .ge 23, 3) := by decide +kernel
theorem dX6_init_84 : decode cX6_init 84 = .ok (.aload_n 0, 1) := by decide +kernel
theorem dX6_init_85 : decode cX6_init 85 = .ok (.getfield 33, 3) := by decide +kernel
theorem dX6_init_88 : decode cX6_init 88 = .ok (.iload_n 1, 1) := by decide +kernel
theorem dX6_init_89 : decode cX6_init 89 = .ok (.new 31, 3) := by decide +kernel
theorem dX6_init_92 : decode cX6_init 92 = .ok (.dup, 1) := by decide +kernel
theorem dX6_init_93 : decode cX6_init 93 = .ok (.iload_n 1, 1) := by decide +kernel
theorem dX6_init_94 : decode cX6_init 94 = .ok (.invokespecial 37, 3) := by decide +kernel
theorem dX6_init_97 : decode cX6_init 97 = .ok (.aastore, 1) := by decide +kernel
theorem dX6_init_98 : decode cX6_init 98 = .ok (.iinc 1 1, 3) := by decide +kernel
theorem dX6_init_101 : decode cX6_init 101 = .ok (.goto (-22), 3) := by decide +kernel
theorem dX6_init_104 : decode cX6_init 104 = .ok (.aload_n 0, 1) := by decide +kernel
theorem dX6_init_105 : decode cX6_init 105 = .ok (.sipush 200, 3) := by decide +kernel
theorem dX6_init_108 : decode cX6_init 108 = .ok (.anewarray 40, 3) := by decide +kernel
theorem dX6_init_111 : decode cX6_init 111 = .ok (.putfield 42, 3) := by decide +kernel
theorem dX6_init_114 : decode cX6_init 114 = .ok (.aload_n 0, 1) := by decide +kernel
theorem dX6_init_115 : decode cX6_init 115 = .ok (.new 46, 3) := by decide +kernel
theorem dX6_init_118 : decode cX6_init 118 = .ok (.dup, 1) := by decide +kernel
theorem dX6_init_119 : decode cX6_init 119 = .ok (.aload_n 0, 1) := by decide +kernel
theorem dX6_init_120 : decode cX6_init 120 = .ok (.getfield 12, 3) := by decide +kernel
theorem dX6_init_123 : decode cX6_init 123 = .ok (.invokespecial 48, 3) := by decide +kernel
theorem dX6_init_126 : decode cX6_init 126 = .ok (.putfield 49, 3) := by decide +kernel
theorem dX6_init_129 : decode cX6_init 129 = .ok (.aload_n 0, 1) := by decide +kernel
theorem dX6_init_130 : decode cX6_init 130 = .ok (.iconst 0, 1) := by decide +kernel
theorem dX6_init_131 : decode cX6_init 131 = .ok (.putfield 53, 3) := by decide +kernel
theorem dX6_init_134 : decode cX6_init 134 = .ok (.return_, 1) := by decide +kernel
set_option maxRecDepth 20000 in
theorem ggX6_ask_X6_needIndex : GoodIn wsX6_ask wsX6_needIndex := goodIn_ca (goodIn_r _ [11, 12, 13] (by decide +kernel) (by decide +kernel)) (goodIn_sub (fun _ h => List.mem_cons_of_mem _ (List.mem_append_left _ (List.mem_append_right _ h))) (by decide +kernel))
set_option maxRecDepth 20000 in
theorem gX6_ask_X6_needIndex : GoodIn wsX6_ask (va_wsS RX6 57 yX6_needIndex wsX6_needIndex) := goodIn_app (goodIn_of _ (by decide +kernel)) ggX6_ask_X6_needIndex
set_option maxRecDepth 20000 in
theorem ggX6_ask_X6_needRange : GoodIn wsX6_ask wsX6_needRange := goodIn_ca (goodIn_r _ [16, 17, 18] (by decide +kernel) (by decide +kernel)) (goodIn_sub (fun _ h => List.mem_cons_of_mem _ (List.mem_append_right _ h)) (by decide +kernel))
set_option maxRecDepth 20000 in
theorem gX6_ask_X6_needRange : GoodIn wsX6_ask (va_wsS RX6 61 yX6_needRange wsX6_needRange) := goodIn_app (goodIn_of _ (by decide +kernel)) ggX6_ask_X6_needRange
set_option maxRecDepth 20000 in
theorem ggX6_ask_X3_init : GoodIn wsX6_ask wsX3_init := goodIn_r _ [20, 21, 22, 23, 24, 25, 26, 27, 28, 29, 30, 31, 32, 33, 34, 35, 36, 37, 38, 62, 63, 64, 65, 66, 67, 68, 69, 70, 71, 72, 73, 74, 75, 76, 57, 58, 59, 60, 61] (by decide +kernel) (by decide +kernel)
set_option maxRecDepth 20000 in
theorem gX6_ask_X3_init_n72 : GoodIn wsX6_ask (wsX3_init) := ggX6_ask_X3_init
set_option maxRecDepth 20000 in
theorem ggX6_ask_X6_sendToSet : GoodIn wsX6_ask wsX6_sendToSet := goodIn_r _ [42, 43, 44, 45, 46, 47, 48, 49, 50, 51, 52, 53, 54, 55, 56, 62, 63, 64, 65, 66, 67, 68, 69, 70, 71, 72, 73, 74, 75, 76, 77, 78, 79, 80, 81, 82, 83, 84, 85] (by decide +kernel) (by decide +kernel)
set_option maxRecDepth 20000 in
theorem gX6_ask_X6_sendToSet : GoodIn wsX6_ask (wsV RX6 79 RX6 yX6_sendToSet wsX6_sendToSet) := goodIn_app (goodIn_of _ (by decide +kernel)) ggX6_ask_X6_sendToSet
theorem dX6_ask_0 : decode cX6_ask 0 = .ok (.iload_n 1, 1) := by decide +kernel
theorem dX6_ask_1 : decode cX6_ask 1 = .ok (.iconst 4, 1) := by decide +kernel
theorem dX6_ask_2 : decode cX6_ask 2 = .ok (.invokestatic 57, 3) := by decide +kernel
theorem dX6_ask_5 : decode cX6_ask 5 = .ok (.iload_n 2, 1) := by decide +kernel
theorem dX6_ask_6 : decode cX6_ask 6 = .ok (.iconst 4, 1) := by decide +kernel
theorem dX6_ask_7 : decode cX6_ask 7 = .ok (.invokestatic 57, 3) := by decide +kernel
theorem dX6_ask_10 : decode cX6_ask 10 = .ok (.iload_n 3, 1) := by decide +kernel
theorem dX6_ask_11 : decode cX6_ask 11 = .ok (.iconst 0, 1) := by decide +kernel
theorem dX6_ask_12 : decode cX6_ask 12 = .ok (.bipush 6, 2) := by decide +kernel
theorem dX6_ask_14 : decode cX6_ask 14 = .ok (.invokestatic 61, 3) := by decide +kernel
theorem dX6_ask_17 : decode cX6_ask 17 = .ok (.aload_n 0, 1) := by decide +kernel
theorem dX6_ask_18 : decode cX6_ask 18 = .ok (.getfield 33, 3) := by decide +kernel
theorem dX6_ask_21 : decode cX6_ask 21 = .ok (.iload_n 1, 1) := by decide +kernel
theorem dX6_ask_22 : decode cX6_ask 22 = .ok (.aaload, 1) := by decide +kernel
theorem dX6_ask_23 : decode cX6_ask 23 = .ok (.astore 6, 2) := by decide +kernel
theorem dX6_ask_25 : decode cX6_ask 25 = .ok (.aload 6, 2) := by decide +kernel
theorem dX6_ask_27 : decode cX6_ask 27 = .ok (.getfield 65, 3) := by decide +kernel
theorem dX6_ask_30 : decode cX6_ask 30 = .ok (.ifnonnull 13, 3) := by decide +kernel
theorem dX6_ask_33 : decode cX6_ask 33 = .ok (.aload_n 0, 1) := by decide +kernel
theorem dX6_ask_34 : decode cX6_ask 34 = .ok (.getfield 53, 3) := by decide +kernel
theorem dX6_ask_37 : decode cX6_ask 37 = .ok (.sipush 200, 3) := by decide +kernel
theorem dX6_ask_40 : decode cX6_ask 40 = .ok (.if_icmp .lt 5, 3) := by decide +kernel
theorem dX6_ask_43 : decode cX6_ask 43 = .ok (.iconst (-1), 1) := by decide +kernel
theorem dX6_ask_44 : decode cX6_ask 44 = .ok (.ireturn, 1) := by decide +kernel
theorem dX6_ask_45 : decode cX6_ask 45 = .ok (.aload 6, 2) := by decide +kernel
theorem dX6_ask_47 : decode cX6_ask 47 = .ok (.dup, 1) := by decide +kernel
theorem dX6_ask_48 : decode cX6_ask 48 = .ok (.getfield 69, 3) := by decide +kernel
theorem dX6_ask_51 : decode cX6_ask 51 = .ok (.iconst 1, 1) := by decide +kernel
theorem dX6_ask_52 : decode cX6_ask 52 = .ok (.iadd, 1) := by decide +kernel
theorem dX6_ask_53 : decode cX6_ask 53 = .ok (.putfield 69, 3) := by decide +kernel
theorem dX6_ask_56 : decode cX6_ask 56 = .ok (.new 40, 3) := by decide +kernel
theorem dX6_ask_59 : decode cX6_ask 59 = .ok (.dup, 1) := by decide +kernel
theorem dX6_ask_60 : decode cX6_ask 60 = .ok (.aload_n 0, 1) := by decide +kernel
theorem dX6_ask_61 : decode cX6_ask 61 = .ok (.getfield 53, 3) := by decide +kernel
theorem dX6_ask_64 : decode cX6_ask 64 = .ok (.aload 6, 2) := by decide +kernel
theorem dX6_ask_66 : decode cX6_ask 66 = .ok (.iload_n 2, 1) := by decide +kernel
theorem dX6_ask_67 : decode cX6_ask 67 = .ok (.iload_n 3, 1) := by decide +kernel
theorem dX6_ask_68 : decode cX6_ask 68 = .ok (.lload 4, 2) := by decide +kernel
theorem dX6_ask_70 : decode cX6_ask 70 = .ok (.aload_n 0, 1) := by decide +kernel
theorem dX6_ask_71 : decode cX6_ask 71 = .ok (.getfield 12, 3) := by decide +kernel
theorem dX6_ask_74 : decode cX6_ask 74 = .ok (.invokespecial 72, 3) := by decide +kernel
theorem dX6_ask_77 : decode cX6_ask 77 = .ok (.astore 7, 2) := by decide +kernel
theorem dX6_ask_79 : decode cX6_ask 79 = .ok (.aload_n 0, 1) := by decide +kernel
theorem dX6_ask_80 : decode cX6_ask 80 = .ok (.getfield 42, 3) := by decide +kernel
theorem dX6_ask_83 : decode cX6_ask 83 = .ok (.aload_n 0, 1) := by decide +kernel
theorem dX6_ask_84 : decode cX6_ask 84 = .ok (.getfield 53, 3) := by decide +kernel
theorem dX6_ask_87 : decode cX6_ask 87 = .ok (.aload 7, 2) := by decide +kernel
theorem dX6_ask_89 : decode cX6_ask 89 = .ok (.aastore, 1) := by decide +kernel
theorem dX6_ask_90 : decode cX6_ask 90 = .ok (.aload_n 0, 1) := by decide +kernel
theorem dX6_ask_91 : decode cX6_ask 91 = .ok (.dup, 1) := by decide +kernel
theorem dX6_ask_92 : decode cX6_ask 92 = .ok (.getfield 53, 3) := by decide +kernel
theorem dX6_ask_95 : decode cX6_ask 95 = .ok (.iconst 1, 1) := by decide +kernel
theorem dX6_ask_96 : decode cX6_ask 96 = .ok (.iadd, 1) := by decide +kernel
theorem dX6_ask_97 : decode cX6_ask 97 = .ok (.putfield 53, 3) := by decide +kernel
theorem dX6_ask_100 : decode cX6_ask 100 = .ok (.aload 6, 2) := by decide +kernel
theorem dX6_ask_102 : decode cX6_ask 102 = .ok (.aload 7, 2) := by decide +kernel
theorem dX6_ask_104 : decode cX6_ask 104 = .ok (.putfield 65, 3) := by decide +kernel
theorem dX6_ask_107 : decode cX6_ask 107 = .ok (.aload_n 0, 1) := by decide +kernel
theorem dX6_ask_108 : decode cX6_ask 108 = .ok (.iconst 0, 1) := by decide +kernel
theorem dX6_ask_109 : decode cX6_ask 109 = .ok (.aload 7, 2) := by decide +kernel
theorem dX6_ask_111 : decode cX6_ask 111 = .ok (.aload 6, 2) := by decide +kernel
theorem dX6_ask_113 : decode cX6_ask 113 = .ok (.getfield 75, 3) := by decide +kernel
theorem dX6_ask_116 : decode cX6_ask 116 = .ok (.iconst 0, 1) := by decide +kernel
theorem dX6_ask_117 : decode cX6_ask 117 = .ok (.iaload, 1) := by decide +kernel
theorem dX6_ask_118 : decode cX6_ask 118 = .ok (.aload_n 0, 1) := by decide +kernel
theorem dX6_ask_119 : decode cX6_ask 119 = .ok (.getfield 12, 3) := by decide +kernel
theorem dX6_ask_122 : decode cX6_ask 122 = .ok (.invokevirtual 79, 3) := by decide +kernel
theorem dX6_ask_125 : decode cX6_ask 125 = .ok (.aload 7, 2) := by decide +kernel
theorem dX6_ask_127 : decode cX6_ask 127 = .ok (.getfield 83, 3) := by decide +kernel
theorem dX6_ask_130 : decode cX6_ask 130 = .ok (.ireturn, 1) := by decide +kernel
set_option maxRecDepth 20000 in
theorem ggX6_give_X6_needIndex : GoodIn wsX6_give wsX6_needIndex := goodIn_ca (goodIn_r _ [5, 6, 7] (by decide +kernel) (by decide +kernel)) (goodIn_sub (fun _ h => List.mem_cons_of_mem _ (List.mem_append_right _ h)) (by decide +kernel))
set_option maxRecDepth 20000 in
theorem gX6_give_X6_needIndex : GoodIn wsX6_give (va_wsS RX6 57 yX6_needIndex wsX6_needIndex) := goodIn_app (goodIn_of _ (by decide +kernel)) ggX6_give_X6_needIndex
set_option maxRecDepth 20000 in
theorem ggX6_give_X6_endCurrent : GoodIn wsX6_give wsX6_endCurrent := goodIn_r _ [10, 18, 19, 20, 21, 22, 23, 24, 25, 26, 27, 28, 29, 30, 31, 32, 33, 34, 35, 36, 37] (by decide +kernel) (by decide +kernel)
set_option maxRecDepth 20000 in
theorem gX6_give_X6_endCurrent : GoodIn wsX6_give (va_wsS RX6 86 yX6_endCurrent wsX6_endCurrent) := goodIn_app (goodIn_of _ (by decide +kernel)) ggX6_give_X6_endCurrent
theorem dX6_give_0 : decode cX6_give 0 = .ok (.iload_n 1, 1) := by decide +kernel
theorem dX6_give_1 : decode cX6_give 1 = .ok (.iconst 4, 1) := by decide +kernel
theorem dX6_give_2 : decode cX6_give 2 = .ok (.invokestatic 57, 3) := by decide +kernel
theorem dX6_give_5 : decode cX6_give 5 = .ok (.aload_n 0, 1) := by decide +kernel
theorem dX6_give_6 : decode cX6_give 6 = .ok (.getfield 33, 3) := by decide +kernel
theorem dX6_give_9 : decode cX6_give 9 = .ok (.iload_n 1, 1) := by decide +kernel
theorem dX6_give_10 : decode cX6_give 10 = .ok (.aaload, 1) := by decide +kernel
theorem dX6_give_11 : decode cX6_give 11 = .ok (.iconst 2, 1) := by decide +kernel
theorem dX6_give_12 : decode cX6_give 12 = .ok (.invokestatic 86, 3) := by decide +kernel
theorem dX6_give_15 : decode cX6_give 15 = .ok (.ireturn, 1) := by decide +kernel
set_option maxRecDepth 20000 in
theorem ggX6_plan_X6_needIndex : GoodIn wsX6_plan wsX6_needIndex := goodIn_ca (goodIn_r _ [5, 6, 7] (by decide +kernel) (by decide +kernel)) (goodIn_sub (fun _ h => List.mem_cons_of_mem _ (List.mem_append_left _ (List.mem_append_right _ h))) (by decide +kernel))
set_option maxRecDepth 20000 in
theorem gX6_plan_X6_needIndex : GoodIn wsX6_plan (va_wsS RX6 57 yX6_needIndex wsX6_needIndex) := goodIn_app (goodIn_of _ (by decide +kernel)) ggX6_plan_X6_needIndex
set_option maxRecDepth 20000 in
theorem ggX6_plan_X6_needRange : GoodIn wsX6_plan wsX6_needRange := goodIn_ca (goodIn_r _ [10, 11, 12] (by decide +kernel) (by decide +kernel)) (goodIn_sub (fun _ h => List.mem_cons_of_mem _ (List.mem_append_right _ h)) (by decide +kernel))
set_option maxRecDepth 20000 in
theorem gX6_plan_X6_needRange : GoodIn wsX6_plan (va_wsS RX6 61 yX6_needRange wsX6_needRange) := goodIn_app (goodIn_of _ (by decide +kernel)) ggX6_plan_X6_needRange
set_option maxRecDepth 20000 in
theorem ggX6_plan_J6_bitCount_0f7a4 : GoodIn wsX6_plan wsJ6_bitCount_0f7a4 := goodIn_r _ [16, 17, 18, 19] (by decide +kernel) (by decide +kernel)
set_option maxRecDepth 20000 in
theorem gX6_plan_J6_bitCount_0f7a4 : GoodIn wsX6_plan (va_wsS RX6 90 yJ6_bitCount_0f7a4 wsJ6_bitCount_0f7a4) := goodIn_app (goodIn_of _ (by decide +kernel)) ggX6_plan_J6_bitCount_0f7a4
theorem dX6_plan_0 : decode cX6_plan 0 = .ok (.iload_n 1, 1) := by decide +kernel
theorem dX6_plan_1 : decode cX6_plan 1 = .ok (.iconst 4, 1) := by decide +kernel
theorem dX6_plan_2 : decode cX6_plan 2 = .ok (.invokestatic 57, 3) := by decide +kernel
theorem dX6_plan_5 : decode cX6_plan 5 = .ok (.iload_n 2, 1) := by decide +kernel
theorem dX6_plan_6 : decode cX6_plan 6 = .ok (.iconst 2, 1) := by decide +kernel
theorem dX6_plan_7 : decode cX6_plan 7 = .ok (.invokestatic 57, 3) := by decide +kernel
theorem dX6_plan_10 : decode cX6_plan 10 = .ok (.iload_n 3, 1) := by decide +kernel
theorem dX6_plan_11 : decode cX6_plan 11 = .ok (.iconst 1, 1) := by decide +kernel
theorem dX6_plan_12 : decode cX6_plan 12 = .ok (.sipush 511, 3) := by decide +kernel
theorem dX6_plan_15 : decode cX6_plan 15 = .ok (.invokestatic 61, 3) := by decide +kernel
theorem dX6_plan_18 : decode cX6_plan 18 = .ok (.iload 4, 2) := by decide +kernel
theorem dX6_plan_20 : decode cX6_plan 20 = .ok (.iconst 1, 1) := by decide +kernel
theorem dX6_plan_21 : decode cX6_plan 21 = .ok (.iload_n 3, 1) := by decide +kernel
theorem dX6_plan_22 : decode cX6_plan 22 = .ok (.invokestatic 90, 3) := by decide +kernel
theorem dX6_plan_25 : decode cX6_plan 25 = .ok (.invokestatic 61, 3) := by decide +kernel
theorem dX6_plan_28 : decode cX6_plan 28 = .ok (.aload_n 0, 1) := by decide +kernel
theorem dX6_plan_29 : decode cX6_plan 29 = .ok (.getfield 33, 3) := by decide +kernel
theorem dX6_plan_32 : decode cX6_plan 32 = .ok (.iload_n 1, 1) := by decide +kernel
theorem dX6_plan_33 : decode cX6_plan 33 = .ok (.aaload, 1) := by decide +kernel
theorem dX6_plan_34 : decode cX6_plan 34 = .ok (.getfield 75, 3) := by decide +kernel
theorem dX6_plan_37 : decode cX6_plan 37 = .ok (.iload_n 2, 1) := by decide +kernel
theorem dX6_plan_38 : decode cX6_plan 38 = .ok (.iload_n 3, 1) := by decide +kernel
theorem dX6_plan_39 : decode cX6_plan 39 = .ok (.iastore, 1) := by decide +kernel
theorem dX6_plan_40 : decode cX6_plan 40 = .ok (.aload_n 0, 1) := by decide +kernel
theorem dX6_plan_41 : decode cX6_plan 41 = .ok (.getfield 33, 3) := by decide +kernel
theorem dX6_plan_44 : decode cX6_plan 44 = .ok (.iload_n 1, 1) := by decide +kernel
theorem dX6_plan_45 : decode cX6_plan 45 = .ok (.aaload, 1) := by decide +kernel
theorem dX6_plan_46 : decode cX6_plan 46 = .ok (.getfield 96, 3) := by decide +kernel
theorem dX6_plan_49 : decode cX6_plan 49 = .ok (.iload_n 2, 1) := by decide +kernel
theorem dX6_plan_50 : decode cX6_plan 50 = .ok (.iload 4, 2) := by decide +kernel
theorem dX6_plan_52 : decode cX6_plan 52 = .ok (.iastore, 1) := by decide +kernel
theorem dX6_plan_53 : decode cX6_plan 53 = .ok (.return_, 1) := by decide +kernel
set_option maxRecDepth 20000 in
theorem ggX6_take_X6_needIndex : GoodIn wsX6_take wsX6_needIndex := goodIn_ca (goodIn_r _ [5, 6, 7] (by decide +kernel) (by decide +kernel)) (goodIn_sub (fun _ h => List.mem_cons_of_mem _ (List.mem_append_right _ h)) (by decide +kernel))
set_option maxRecDepth 20000 in
theorem gX6_take_X6_needIndex : GoodIn wsX6_take (va_wsS RX6 57 yX6_needIndex wsX6_needIndex) := goodIn_app (goodIn_of _ (by decide +kernel)) ggX6_take_X6_needIndex
set_option maxRecDepth 20000 in
theorem ggX6_take_X6_deliver : GoodIn wsX6_take wsX6_deliver := goodIn_r _ [11, 1, 12, 13, 14, 15, 16, 17, 18, 19, 20, 4, 21, 22, 23, 24, 25, 26, 27, 28, 29, 30, 31, 32, 33, 34, 35, 36, 37, 38, 39, 40, 41, 42, 43, 44, 45, 46, 47, 48, 49, 50, 51, 52, 53, 54, 55, 56, 57, 58, 59, 60, 61, 62, 63, 64, 65, 66, 67, 68, 69, 70, 71, 72, 73, 74, 75, 76, 77, 78, 79, 80, 81, 82, 83, 84, 85, 86, 87, 88, 89, 90, 91, 92, 93, 94, 95, 96, 97, 98, 99, 100, 101, 102, 103, 104, 105, 106, 107, 108, 109, 110, 111, 112, 113, 114, 115, 116, 117, 118, 119, 120, 121, 122, 123, 124, 125, 126, 127, 128, 129, 130, 131, 132, 133, 134, 135, 136, 137, 138, 141, 142, 143, 144, 145, 146, 147, 139, 140, 148, 149, 150, 151, 152, 153, 154, 155, 156, 157, 158, 159, 160, 161, 162, 163, 164, 165, 166, 167, 168, 169, 170, 171, 172, 173] (by decide +kernel) (by decide +kernel)
set_option maxRecDepth 20000 in
theorem gX6_take_X6_deliver : GoodIn wsX6_take (wsV RX6 102 RX6 yX6_deliver wsX6_deliver) := goodIn_app (goodIn_of _ (by decide +kernel)) ggX6_take_X6_deliver
theorem dX6_take_0 : decode cX6_take 0 = .ok (.iload_n 1, 1) := by decide +kernel
theorem dX6_take_1 : decode cX6_take 1 = .ok (.aload_n 0, 1) := by decide +kernel
theorem dX6_take_2 : decode cX6_take 2 = .ok (.getfield 49, 3) := by decide +kernel
theorem dX6_take_5 : decode cX6_take 5 = .ok (.getfield 99, 3) := by decide +kernel
theorem dX6_take_8 : decode cX6_take 8 = .ok (.invokestatic 57, 3) := by decide +kernel
theorem dX6_take_11 : decode cX6_take 11 = .ok (.aload_n 0, 1) := by decide +kernel
theorem dX6_take_12 : decode cX6_take 12 = .ok (.iload_n 1, 1) := by decide +kernel
theorem dX6_take_13 : decode cX6_take 13 = .ok (.invokevirtual 102, 3) := by decide +kernel
theorem dX6_take_16 : decode cX6_take 16 = .ok (.ireturn, 1) := by decide +kernel
set_option maxRecDepth 20000 in
theorem ggX6_run_X6_needRange : GoodIn wsX6_run wsX6_needRange := goodIn_ca (goodIn_r _ [5, 6, 7] (by decide +kernel) (by decide +kernel)) (goodIn_sub (fun _ h => List.mem_cons_of_mem _ (List.mem_append_right _ h)) (by decide +kernel))
set_option maxRecDepth 20000 in
theorem gX6_run_X6_needRange : GoodIn wsX6_run (va_wsS RX6 61 yX6_needRange wsX6_needRange) := goodIn_app (goodIn_of _ (by decide +kernel)) ggX6_run_X6_needRange
set_option maxRecDepth 20000 in
theorem ggX6_run_X6_deliver : GoodIn wsX6_run wsX6_deliver := goodIn_r _ [11, 1, 12, 13, 14, 15, 16, 17, 18, 19, 20, 4, 21, 22, 23, 24, 25, 26, 27, 28, 29, 30, 31, 32, 33, 34, 35, 36, 37, 38, 39, 40, 41, 42, 43, 44, 45, 46, 47, 48, 49, 50, 51, 52, 53, 54, 55, 56, 57, 58, 59, 60, 61, 62, 63, 64, 65, 66, 67, 68, 69, 70, 71, 72, 73, 74, 75, 76, 77, 78, 79, 80, 81, 82, 83, 84, 85, 86, 87, 88, 89, 90, 91, 92, 93, 94, 95, 96, 97, 98, 99, 100, 101, 102, 103, 104, 105, 106, 107, 108, 109, 110, 111, 112, 113, 114, 115, 116, 117, 118, 119, 120, 121, 122, 123, 124, 125, 126, 127, 128, 129, 130, 131, 132, 133, 134, 135, 136, 137, 138, 141, 142, 143, 144, 145, 146, 147, 139, 140, 148, 149, 150, 151, 152, 153, 154, 155, 156, 157, 158, 159, 160, 161, 162, 163, 164, 165, 166, 167, 168, 169, 170, 171, 172, 173] (by decide +kernel) (by decide +kernel)
set_option maxRecDepth 20000 in
theorem gX6_run_X6_deliver : GoodIn wsX6_run (wsV RX6 102 RX6 yX6_deliver wsX6_deliver) := goodIn_app (goodIn_of _ (by decide +kernel)) ggX6_run_X6_deliver
theorem dX6_run_0 : decode cX6_run 0 = .ok (.iload_n 1, 1) := by decide +kernel
theorem dX6_run_1 : decode cX6_run 1 = .ok (.iconst 0, 1) := by decide +kernel
theorem dX6_run_2 : decode cX6_run 2 = .ok (.sipush 1000, 3) := by decide +kernel
theorem dX6_run_5 : decode cX6_run 5 = .ok (.invokestatic 61, 3) := by decide +kernel
theorem dX6_run_8 : decode cX6_run 8 = .ok (.iconst 0, 1) := by decide +kernel
theorem dX6_run_9 : decode cX6_run 9 = .ok (.istore_n 2, 1) := by decide +kernel
theorem dX6_run_10 : decode cX6_run 10 = .ok (.iload_n 2, 1) := by decide +kernel
theorem dX6_run_11 : decode cX6_run 11 = .ok (.iload_n 1, 1) := by decide +kernel
theorem dX6_run_12 : decode cX6_run 12 = .ok (.if_icmp .ge 25, 3) := by decide +kernel
theorem dX6_run_15 : decode cX6_run 15 = .ok (.aload_n 0, 1) := by decide +kernel
theorem dX6_run_16 : decode cX6_run 16 = .ok (.getfield 49, 3) := by decide +kernel
theorem dX6_run_19 : decode cX6_run 19 = .ok (.getfield 99, 3) := by decide +kernel
theorem dX6_run_22 : decode cX6_run 22 = .ok (.ifCond .le 15, 3) := by decide +kernel
theorem dX6_run_25 : decode cX6_run 25 = .ok (.aload_n 0, 1) := by decide +kernel
theorem dX6_run_26 : decode cX6_run 26 = .ok (.iconst 0, 1) := by decide +kernel
theorem dX6_run_27 : decode cX6_run 27 = .ok (.invokevirtual 102, 3) := by decide +kernel
theorem dX6_run_30 : decode cX6_run 30 = .ok (.pop, 1) := by decide +kernel
theorem dX6_run_31 : decode cX6_run 31 = .ok (.iinc 2 1, 3) := by decide +kernel
theorem dX6_run_34 : decode cX6_run 34 = .ok (.goto (-24), 3) := by decide +kernel
theorem dX6_run_37 : decode cX6_run 37 = .ok (.iload_n 2, 1) := by decide +kernel
theorem dX6_run_38 : decode cX6_run 38 = .ok (.ireturn, 1) := by decide +kernel
set_option maxRecDepth 20000 in
theorem ggX6_lose_X6_needIndex : GoodIn wsX6_lose wsX6_needIndex := goodIn_ca (goodIn_r _ [5, 6, 7] (by decide +kernel) (by decide +kernel)) (goodIn_sub (fun _ h => List.mem_cons_of_mem _ (List.mem_append_right _ h)) (by decide +kernel))
set_option maxRecDepth 20000 in
theorem gX6_lose_X6_needIndex : GoodIn wsX6_lose (va_wsS RX6 57 yX6_needIndex wsX6_needIndex) := goodIn_app (goodIn_of _ (by decide +kernel)) ggX6_lose_X6_needIndex
set_option maxRecDepth 20000 in
theorem ggX6_lose_X4_drawOut : GoodIn wsX6_lose wsX4_drawOut := goodIn_r _ [11, 12, 13, 21, 22] (by decide +kernel) (by decide +kernel)
set_option maxRecDepth 20000 in
theorem gX6_lose_X4_drawOut_n105 : GoodIn wsX6_lose (wsX4_drawOut) := ggX6_lose_X4_drawOut
theorem dX6_lose_0 : decode cX6_lose 0 = .ok (.iload_n 1, 1) := by decide +kernel
theorem dX6_lose_1 : decode cX6_lose 1 = .ok (.aload_n 0, 1) := by decide +kernel
theorem dX6_lose_2 : decode cX6_lose 2 = .ok (.getfield 49, 3) := by decide +kernel
theorem dX6_lose_5 : decode cX6_lose 5 = .ok (.getfield 99, 3) := by decide +kernel
theorem dX6_lose_8 : decode cX6_lose 8 = .ok (.invokestatic 57, 3) := by decide +kernel
theorem dX6_lose_11 : decode cX6_lose 11 = .ok (.aload_n 0, 1) := by decide +kernel
theorem dX6_lose_12 : decode cX6_lose 12 = .ok (.getfield 49, 3) := by decide +kernel
theorem dX6_lose_15 : decode cX6_lose 15 = .ok (.iload_n 1, 1) := by decide +kernel
theorem dX6_lose_16 : decode cX6_lose 16 = .ok (.invokevirtual 105, 3) := by decide +kernel
theorem dX6_lose_19 : decode cX6_lose 19 = .ok (.getfield 109, 3) := by decide +kernel
theorem dX6_lose_22 : decode cX6_lose 22 = .ok (.ireturn, 1) := by decide +kernel
set_option maxRecDepth 20000 in
theorem ggX6_twice_X6_needIndex : GoodIn wsX6_twice wsX6_needIndex := goodIn_ca (goodIn_r _ [5, 6, 7] (by decide +kernel) (by decide +kernel)) (goodIn_sub (fun _ h => List.mem_cons_of_mem _ (List.mem_append_right _ h)) (by decide +kernel))
set_option maxRecDepth 20000 in
theorem gX6_twice_X6_needIndex : GoodIn wsX6_twice (va_wsS RX6 57 yX6_needIndex wsX6_needIndex) := goodIn_app (goodIn_of _ (by decide +kernel)) ggX6_twice_X6_needIndex
set_option maxRecDepth 20000 in
theorem ggX6_twice_X4_send : GoodIn wsX6_twice wsX4_send := goodIn_r _ [11, 12, 13, 21, 22, 23, 24, 25, 26, 27, 28, 29] (by decide +kernel) (by decide +kernel)
set_option maxRecDepth 20000 in
theorem gX6_twice_X4_send_n136 : GoodIn wsX6_twice (wsX4_send) := ggX6_twice_X4_send
theorem dX6_twice_0 : decode cX6_twice 0 = .ok (.iload_n 1, 1) := by decide +kernel
theorem dX6_twice_1 : decode cX6_twice 1 = .ok (.aload_n 0, 1) := by decide +kernel
theorem dX6_twice_2 : decode cX6_twice 2 = .ok (.getfield 49, 3) := by decide +kernel
theorem dX6_twice_5 : decode cX6_twice 5 = .ok (.getfield 99, 3) := by decide +kernel
theorem dX6_twice_8 : decode cX6_twice 8 = .ok (.invokestatic 57, 3) := by decide +kernel
theorem dX6_twice_11 : decode cX6_twice 11 = .ok (.aload_n 0, 1) := by decide +kernel
theorem dX6_twice_12 : decode cX6_twice 12 = .ok (.getfield 49, 3) := by decide +kernel
theorem dX6_twice_15 : decode cX6_twice 15 = .ok (.getfield 99, 3) := by decide +kernel
theorem dX6_twice_18 : decode cX6_twice 18 = .ok (.sipush 300, 3) := by decide +kernel
theorem dX6_twice_21 : decode cX6_twice 21 = .ok (.if_icmp .lt 5, 3) := by decide +kernel
theorem dX6_twice_24 : decode cX6_twice 24 = .ok (.iconst (-1), 1) := by decide +kernel
theorem dX6_twice_25 : decode cX6_twice 25 = .ok (.ireturn, 1) := by decide +kernel
theorem dX6_twice_26 : decode cX6_twice 26 = .ok (.aload_n 0, 1) := by decide +kernel
theorem dX6_twice_27 : decode cX6_twice 27 = .ok (.getfield 49, 3) := by decide +kernel
theorem dX6_twice_30 : decode cX6_twice 30 = .ok (.getfield 114, 3) := by decide +kernel
theorem dX6_twice_33 : decode cX6_twice 33 = .ok (.iload_n 1, 1) := by decide +kernel
theorem dX6_twice_34 : decode cX6_twice 34 = .ok (.aaload, 1) := by decide +kernel
theorem dX6_twice_35 : decode cX6_twice 35 = .ok (.astore_n 2, 1) := by decide +kernel
theorem dX6_twice_36 : decode cX6_twice 36 = .ok (.aload_n 0, 1) := by decide +kernel
theorem dX6_twice_37 : decode cX6_twice 37 = .ok (.getfield 49, 3) := by decide +kernel
theorem dX6_twice_40 : decode cX6_twice 40 = .ok (.aload_n 2, 1) := by decide +kernel
theorem dX6_twice_41 : decode cX6_twice 41 = .ok (.getfield 109, 3) := by decide +kernel
theorem dX6_twice_44 : decode cX6_twice 44 = .ok (.aload_n 2, 1) := by decide +kernel
theorem dX6_twice_45 : decode cX6_twice 45 = .ok (.getfield 118, 3) := by decide +kernel
theorem dX6_twice_48 : decode cX6_twice 48 = .ok (.aload_n 2, 1) := by decide +kernel
theorem dX6_twice_49 : decode cX6_twice 49 = .ok (.getfield 121, 3) := by decide +kernel
theorem dX6_twice_52 : decode cX6_twice 52 = .ok (.aload_n 2, 1) := by decide +kernel
theorem dX6_twice_53 : decode cX6_twice 53 = .ok (.getfield 124, 3) := by decide +kernel
theorem dX6_twice_56 : decode cX6_twice 56 = .ok (.aload_n 2, 1) := by decide +kernel
theorem dX6_twice_57 : decode cX6_twice 57 = .ok (.getfield 127, 3) := by decide +kernel
theorem dX6_twice_60 : decode cX6_twice 60 = .ok (.aload_n 2, 1) := by decide +kernel
theorem dX6_twice_61 : decode cX6_twice 61 = .ok (.getfield 130, 3) := by decide +kernel
theorem dX6_twice_64 : decode cX6_twice 64 = .ok (.aload_n 2, 1) := by decide +kernel
theorem dX6_twice_65 : decode cX6_twice 65 = .ok (.getfield 133, 3) := by decide +kernel
theorem dX6_twice_68 : decode cX6_twice 68 = .ok (.invokevirtual 136, 3) := by decide +kernel
theorem dX6_twice_71 : decode cX6_twice 71 = .ok (.aload_n 0, 1) := by decide +kernel
theorem dX6_twice_72 : decode cX6_twice 72 = .ok (.getfield 49, 3) := by decide +kernel
theorem dX6_twice_75 : decode cX6_twice 75 = .ok (.getfield 99, 3) := by decide +kernel
theorem dX6_twice_78 : decode cX6_twice 78 = .ok (.ireturn, 1) := by decide +kernel
set_option maxRecDepth 20000 in
theorem ggX6_down_X6_needIndex : GoodIn wsX6_down wsX6_needIndex := goodIn_ca (goodIn_r _ [5, 6, 7] (by decide +kernel) (by decide +kernel)) (goodIn_sub (fun _ h => List.mem_cons_of_mem _ (List.mem_append_right _ h)) (by decide +kernel))
set_option maxRecDepth 20000 in
theorem gX6_down_X6_needIndex : GoodIn wsX6_down (va_wsS RX6 57 yX6_needIndex wsX6_needIndex) := goodIn_app (goodIn_of _ (by decide +kernel)) ggX6_down_X6_needIndex
theorem dX6_down_0 : decode cX6_down 0 = .ok (.iload_n 1, 1) := by decide +kernel
theorem dX6_down_1 : decode cX6_down 1 = .ok (.bipush 9, 2) := by decide +kernel
theorem dX6_down_3 : decode cX6_down 3 = .ok (.invokestatic 57, 3) := by decide +kernel
theorem dX6_down_6 : decode cX6_down 6 = .ok (.aload_n 0, 1) := by decide +kernel
theorem dX6_down_7 : decode cX6_down 7 = .ok (.getfield 27, 3) := by decide +kernel
theorem dX6_down_10 : decode cX6_down 10 = .ok (.iload_n 1, 1) := by decide +kernel
theorem dX6_down_11 : decode cX6_down 11 = .ok (.baload, 1) := by decide +kernel
theorem dX6_down_12 : decode cX6_down 12 = .ok (.istore_n 3, 1) := by decide +kernel
theorem dX6_down_13 : decode cX6_down 13 = .ok (.aload_n 0, 1) := by decide +kernel
theorem dX6_down_14 : decode cX6_down 14 = .ok (.getfield 27, 3) := by decide +kernel
theorem dX6_down_17 : decode cX6_down 17 = .ok (.iload_n 1, 1) := by decide +kernel
theorem dX6_down_18 : decode cX6_down 18 = .ok (.iload_n 2, 1) := by decide +kernel
theorem dX6_down_19 : decode cX6_down 19 = .ok (.bastore, 1) := by decide +kernel
theorem dX6_down_20 : decode cX6_down 20 = .ok (.iload_n 3, 1) := by decide +kernel
theorem dX6_down_21 : decode cX6_down 21 = .ok (.ireturn, 1) := by decide +kernel
set_option maxRecDepth 20000 in
theorem ggX6_copy_X6_needIndex : GoodIn wsX6_copy wsX6_needIndex := goodIn_ca (goodIn_r _ [4, 5, 6] (by decide +kernel) (by decide +kernel)) (goodIn_sub (fun _ h => List.mem_cons_of_mem _ (List.mem_append_right _ h)) (by decide +kernel))
set_option maxRecDepth 20000 in
theorem gX6_copy_X6_needIndex : GoodIn wsX6_copy (va_wsS RX6 57 yX6_needIndex wsX6_needIndex) := goodIn_app (goodIn_of _ (by decide +kernel)) ggX6_copy_X6_needIndex
set_option maxRecDepth 20000 in
theorem ggX6_copy_X6_registerOf : GoodIn wsX6_copy wsX6_registerOf := goodIn_r _ [10, 11, 23, 24, 25, 26, 27, 28, 29] (by decide +kernel) (by decide +kernel)
set_option maxRecDepth 20000 in
theorem gX6_copy_X6_registerOf : GoodIn wsX6_copy (wsV RX6 140 RX6 yX6_registerOf wsX6_registerOf) := goodIn_app (goodIn_of _ (by decide +kernel)) ggX6_copy_X6_registerOf
set_option maxRecDepth 20000 in
theorem ggX6_copy_X2_catchUp : GoodIn wsX6_copy wsX2_catchUp := goodIn_r _ [15, 16, 17, 18, 19, 20, 21, 22, 30, 31, 32] (by decide +kernel) (by decide +kernel)
set_option maxRecDepth 20000 in
theorem gX6_copy_X2_catchUp_n144 : GoodIn wsX6_copy (wsX2_catchUp) := ggX6_copy_X2_catchUp
theorem dX6_copy_0 : decode cX6_copy 0 = .ok (.iload_n 1, 1) := by decide +kernel
theorem dX6_copy_1 : decode cX6_copy 1 = .ok (.bipush 9, 2) := by decide +kernel
theorem dX6_copy_3 : decode cX6_copy 3 = .ok (.invokestatic 57, 3) := by decide +kernel
theorem dX6_copy_6 : decode cX6_copy 6 = .ok (.iload_n 2, 1) := by decide +kernel
theorem dX6_copy_7 : decode cX6_copy 7 = .ok (.bipush 9, 2) := by decide +kernel
theorem dX6_copy_9 : decode cX6_copy 9 = .ok (.invokestatic 57, 3) := by decide +kernel
theorem dX6_copy_12 : decode cX6_copy 12 = .ok (.iconst 0, 1) := by decide +kernel
theorem dX6_copy_13 : decode cX6_copy 13 = .ok (.istore_n 3, 1) := by decide +kernel
theorem dX6_copy_14 : decode cX6_copy 14 = .ok (.iconst 0, 1) := by decide +kernel
theorem dX6_copy_15 : decode cX6_copy 15 = .ok (.istore 4, 2) := by decide +kernel
theorem dX6_copy_17 : decode cX6_copy 17 = .ok (.iload 4, 2) := by decide +kernel
theorem dX6_copy_19 : decode cX6_copy 19 = .ok (.iconst 4, 1) := by decide +kernel
theorem dX6_copy_20 : decode cX6_copy 20 = .ok (.if_icmp .ge 32, 3) := by decide +kernel
theorem dX6_copy_23 : decode cX6_copy 23 = .ok (.aload_n 0, 1) := by decide +kernel
theorem dX6_copy_24 : decode cX6_copy 24 = .ok (.iload_n 1, 1) := by decide +kernel
theorem dX6_copy_25 : decode cX6_copy 25 = .ok (.iload 4, 2) := by decide +kernel
theorem dX6_copy_27 : decode cX6_copy 27 = .ok (.invokevirtual 140, 3) := by decide +kernel
theorem dX6_copy_30 : decode cX6_copy 30 = .ok (.aload_n 0, 1) := by decide +kernel
theorem dX6_copy_31 : decode cX6_copy 31 = .ok (.iload_n 2, 1) := by decide +kernel
theorem dX6_copy_32 : decode cX6_copy 32 = .ok (.iload 4, 2) := by decide +kernel
theorem dX6_copy_34 : decode cX6_copy 34 = .ok (.invokevirtual 140, 3) := by decide +kernel
theorem dX6_copy_37 : decode cX6_copy 37 = .ok (.invokevirtual 144, 3) := by decide +kernel
theorem dX6_copy_40 : decode cX6_copy 40 = .ok (.ifCond .eq 6, 3) := by decide +kernel
theorem dX6_copy_43 : decode cX6_copy 43 = .ok (.iinc 3 1, 3) := by decide +kernel
theorem dX6_copy_46 : decode cX6_copy 46 = .ok (.iinc 4 1, 3) := by decide +kernel
theorem dX6_copy_49 : decode cX6_copy 49 = .ok (.goto (-32), 3) := by decide +kernel
theorem dX6_copy_52 : decode cX6_copy 52 = .ok (.iload_n 3, 1) := by decide +kernel
theorem dX6_copy_53 : decode cX6_copy 53 = .ok (.ireturn, 1) := by decide +kernel
theorem dX6_messages_0 : decode cX6_messages 0 = .ok (.aload_n 0, 1) := by decide +kernel
theorem dX6_messages_1 : decode cX6_messages 1 = .ok (.getfield 49, 3) := by decide +kernel
theorem dX6_messages_4 : decode cX6_messages 4 = .ok (.getfield 99, 3) := by decide +kernel
theorem dX6_messages_7 : decode cX6_messages 7 = .ok (.ireturn, 1) := by decide +kernel
set_option maxRecDepth 20000 in
theorem ggX6_message_X6_needIndex : GoodIn wsX6_message wsX6_needIndex := goodIn_ca (goodIn_r _ [7, 1, 2] (by decide +kernel) (by decide +kernel)) (goodIn_sub (fun _ h => List.mem_cons_of_mem _ (List.mem_append_right _ h)) (by decide +kernel))
set_option maxRecDepth 20000 in
theorem gX6_message_X6_needIndex : GoodIn wsX6_message (va_wsS RX6 57 yX6_needIndex wsX6_needIndex) := goodIn_app (goodIn_of _ (by decide +kernel)) ggX6_message_X6_needIndex
set_option maxRecDepth 20000 in
theorem ggX6_message_X5_versionOrNone : GoodIn wsX6_message wsX5_versionOrNone := goodIn_r _ [11, 12, 13, 30, 31, 32] (by decide +kernel) (by decide +kernel)
set_option maxRecDepth 20000 in
theorem gX6_message_X5_versionOrNone_n148 : GoodIn wsX6_message (wsX5_versionOrNone) := ggX6_message_X5_versionOrNone
theorem dX6_message_0 : decode cX6_message 0 = .ok (.iload_n 1, 1) := by decide +kernel
theorem dX6_message_1 : decode cX6_message 1 = .ok (.aload_n 0, 1) := by decide +kernel
theorem dX6_message_2 : decode cX6_message 2 = .ok (.getfield 49, 3) := by decide +kernel
theorem dX6_message_5 : decode cX6_message 5 = .ok (.getfield 99, 3) := by decide +kernel
theorem dX6_message_8 : decode cX6_message 8 = .ok (.invokestatic 57, 3) := by decide +kernel
theorem dX6_message_11 : decode cX6_message 11 = .ok (.aload_n 0, 1) := by decide +kernel
theorem dX6_message_12 : decode cX6_message 12 = .ok (.getfield 49, 3) := by decide +kernel
theorem dX6_message_15 : decode cX6_message 15 = .ok (.getfield 114, 3) := by decide +kernel
theorem dX6_message_18 : decode cX6_message 18 = .ok (.iload_n 1, 1) := by decide +kernel
theorem dX6_message_19 : decode cX6_message 19 = .ok (.aaload, 1) := by decide +kernel
theorem dX6_message_20 : decode cX6_message 20 = .ok (.astore_n 3, 1) := by decide +kernel
theorem dX6_message_21 : decode cX6_message 21 = .ok (.iload_n 2, 1) := by decide +kernel
theorem dX6_message_22 : decode cX6_message 22 = .ok (.tableswitch 71 0 5 #[38, 43, 48, 53, 58, 63], 38) := by decide +kernel
theorem dX6_message_60 : decode cX6_message 60 = .ok (.aload_n 3, 1) := by decide +kernel
theorem dX6_message_61 : decode cX6_message 61 = .ok (.getfield 109, 3) := by decide +kernel
theorem dX6_message_64 : decode cX6_message 64 = .ok (.ireturn, 1) := by decide +kernel
theorem dX6_message_65 : decode cX6_message 65 = .ok (.aload_n 3, 1) := by decide +kernel
theorem dX6_message_66 : decode cX6_message 66 = .ok (.getfield 118, 3) := by decide +kernel
theorem dX6_message_69 : decode cX6_message 69 = .ok (.ireturn, 1) := by decide +kernel
theorem dX6_message_70 : decode cX6_message 70 = .ok (.aload_n 3, 1) := by decide +kernel
theorem dX6_message_71 : decode cX6_message 71 = .ok (.getfield 121, 3) := by decide +kernel
theorem dX6_message_74 : decode cX6_message 74 = .ok (.ireturn, 1) := by decide +kernel
theorem dX6_message_75 : decode cX6_message 75 = .ok (.aload_n 3, 1) := by decide +kernel
theorem dX6_message_76 : decode cX6_message 76 = .ok (.getfield 124, 3) := by decide +kernel
theorem dX6_message_79 : decode cX6_message 79 = .ok (.ireturn, 1) := by decide +kernel
theorem dX6_message_80 : decode cX6_message 80 = .ok (.aload_n 3, 1) := by decide +kernel
theorem dX6_message_81 : decode cX6_message 81 = .ok (.getfield 130, 3) := by decide +kernel
theorem dX6_message_84 : decode cX6_message 84 = .ok (.ireturn, 1) := by decide +kernel
theorem dX6_message_85 : decode cX6_message 85 = .ok (.aload_n 3, 1) := by decide +kernel
theorem dX6_message_86 : decode cX6_message 86 = .ok (.getfield 133, 3) := by decide +kernel
theorem dX6_message_89 : decode cX6_message 89 = .ok (.invokevirtual 148, 3) := by decide +kernel
theorem dX6_message_92 : decode cX6_message 92 = .ok (.ireturn, 1) := by decide +kernel
theorem dX6_message_93 : decode cX6_message 93 = .ok (.new 152, 3) := by decide +kernel
theorem dX6_message_96 : decode cX6_message 96 = .ok (.dup, 1) := by decide +kernel
theorem dX6_message_97 : decode cX6_message 97 = .ok (.ldc 154, 2) := by decide +kernel
theorem dX6_message_99 : decode cX6_message 99 = .ok (.invokespecial 156, 3) := by decide +kernel
theorem dX6_message_102 : decode cX6_message 102 = .ok (.athrow, 1) := by decide +kernel
set_option maxRecDepth 20000 in
theorem ggX6_keeper_X6_needIndex : GoodIn wsX6_keeper wsX6_needIndex := goodIn_ca (goodIn_r _ [6, 1, 2] (by decide +kernel) (by decide +kernel)) (goodIn_sub (fun _ h => List.mem_cons_of_mem _ (List.mem_append_right _ h)) (by decide +kernel))
set_option maxRecDepth 20000 in
theorem gX6_keeper_X6_needIndex : GoodIn wsX6_keeper (va_wsS RX6 57 yX6_needIndex wsX6_needIndex) := goodIn_app (goodIn_of _ (by decide +kernel)) ggX6_keeper_X6_needIndex
set_option maxRecDepth 20000 in
theorem ggX6_keeper_X6_registerOf : GoodIn wsX6_keeper wsX6_registerOf := goodIn_r _ [10, 11, 21, 22, 23, 24, 25, 26, 27] (by decide +kernel) (by decide +kernel)
set_option maxRecDepth 20000 in
theorem gX6_keeper_X6_registerOf : GoodIn wsX6_keeper (wsV RX6 140 RX6 yX6_registerOf wsX6_registerOf) := goodIn_app (goodIn_of _ (by decide +kernel)) ggX6_keeper_X6_registerOf
set_option maxRecDepth 20000 in
theorem ggX6_keeper_X5_versionOrNone : GoodIn wsX6_keeper wsX5_versionOrNone := goodIn_r _ [15, 16, 17, 28, 29, 30] (by decide +kernel) (by decide +kernel)
set_option maxRecDepth 20000 in
theorem gX6_keeper_X5_versionOrNone_n148 : GoodIn wsX6_keeper (wsX5_versionOrNone) := ggX6_keeper_X5_versionOrNone
theorem dX6_keeper_0 : decode cX6_keeper 0 = .ok (.iload_n 1, 1) := by decide +kernel
theorem dX6_keeper_1 : decode cX6_keeper 1 = .ok (.bipush 9, 2) := by decide +kernel
theorem dX6_keeper_3 : decode cX6_keeper 3 = .ok (.invokestatic 57, 3) := by decide +kernel
theorem dX6_keeper_6 : decode cX6_keeper 6 = .ok (.iload_n 2, 1) := by decide +kernel
theorem dX6_keeper_7 : decode cX6_keeper 7 = .ok (.iconst 4, 1) := by decide +kernel
theorem dX6_keeper_8 : decode cX6_keeper 8 = .ok (.invokestatic 57, 3) := by decide +kernel
theorem dX6_keeper_11 : decode cX6_keeper 11 = .ok (.aload_n 0, 1) := by decide +kernel
theorem dX6_keeper_12 : decode cX6_keeper 12 = .ok (.iload_n 1, 1) := by decide +kernel
theorem dX6_keeper_13 : decode cX6_keeper 13 = .ok (.iload_n 2, 1) := by decide +kernel
theorem dX6_keeper_14 : decode cX6_keeper 14 = .ok (.invokevirtual 140, 3) := by decide +kernel
theorem dX6_keeper_17 : decode cX6_keeper 17 = .ok (.astore 4, 2) := by decide +kernel
theorem dX6_keeper_19 : decode cX6_keeper 19 = .ok (.iload_n 3, 1) := by decide +kernel
theorem dX6_keeper_20 : decode cX6_keeper 20 = .ok (.tableswitch 49 0 2 #[28, 34, 40], 28) := by decide +kernel
theorem dX6_keeper_48 : decode cX6_keeper 48 = .ok (.aload 4, 2) := by decide +kernel
theorem dX6_keeper_50 : decode cX6_keeper 50 = .ok (.getfield 159, 3) := by decide +kernel
theorem dX6_keeper_53 : decode cX6_keeper 53 = .ok (.ireturn, 1) := by decide +kernel
theorem dX6_keeper_54 : decode cX6_keeper 54 = .ok (.aload 4, 2) := by decide +kernel
theorem dX6_keeper_56 : decode cX6_keeper 56 = .ok (.getfield 162, 3) := by decide +kernel
theorem dX6_keeper_59 : decode cX6_keeper 59 = .ok (.ireturn, 1) := by decide +kernel
theorem dX6_keeper_60 : decode cX6_keeper 60 = .ok (.aload 4, 2) := by decide +kernel
theorem dX6_keeper_62 : decode cX6_keeper 62 = .ok (.getfield 163, 3) := by decide +kernel
theorem dX6_keeper_65 : decode cX6_keeper 65 = .ok (.invokevirtual 148, 3) := by decide +kernel
theorem dX6_keeper_68 : decode cX6_keeper 68 = .ok (.ireturn, 1) := by decide +kernel
theorem dX6_keeper_69 : decode cX6_keeper 69 = .ok (.new 152, 3) := by decide +kernel
theorem dX6_keeper_72 : decode cX6_keeper 72 = .ok (.dup, 1) := by decide +kernel
theorem dX6_keeper_73 : decode cX6_keeper 73 = .ok (.ldc 164, 2) := by decide +kernel
theorem dX6_keeper_75 : decode cX6_keeper 75 = .ok (.invokespecial 156, 3) := by decide +kernel
theorem dX6_keeper_78 : decode cX6_keeper 78 = .ok (.athrow, 1) := by decide +kernel
set_option maxRecDepth 20000 in
theorem ggX6_kept_X6_needIndex : GoodIn wsX6_kept wsX6_needIndex := goodIn_ca (goodIn_r _ [4, 5, 6] (by decide +kernel) (by decide +kernel)) (goodIn_sub (fun _ h => List.mem_cons_of_mem _ (List.mem_append_right _ h)) (by decide +kernel))
set_option maxRecDepth 20000 in
theorem gX6_kept_X6_needIndex : GoodIn wsX6_kept (va_wsS RX6 57 yX6_needIndex wsX6_needIndex) := goodIn_app (goodIn_of _ (by decide +kernel)) ggX6_kept_X6_needIndex
set_option maxRecDepth 20000 in
theorem ggX6_kept_X6_registerOf : GoodIn wsX6_kept wsX6_registerOf := goodIn_r _ [10, 11, 18, 19, 20, 21, 22, 23, 24] (by decide +kernel) (by decide +kernel)
set_option maxRecDepth 20000 in
theorem gX6_kept_X6_registerOf : GoodIn wsX6_kept (wsV RX6 140 RX6 yX6_registerOf wsX6_registerOf) := goodIn_app (goodIn_of _ (by decide +kernel)) ggX6_kept_X6_registerOf
theorem dX6_kept_0 : decode cX6_kept 0 = .ok (.iload_n 1, 1) := by decide +kernel
theorem dX6_kept_1 : decode cX6_kept 1 = .ok (.bipush 9, 2) := by decide +kernel
theorem dX6_kept_3 : decode cX6_kept 3 = .ok (.invokestatic 57, 3) := by decide +kernel
theorem dX6_kept_6 : decode cX6_kept 6 = .ok (.iload_n 2, 1) := by decide +kernel
theorem dX6_kept_7 : decode cX6_kept 7 = .ok (.iconst 4, 1) := by decide +kernel
theorem dX6_kept_8 : decode cX6_kept 8 = .ok (.invokestatic 57, 3) := by decide +kernel
theorem dX6_kept_11 : decode cX6_kept 11 = .ok (.aload_n 0, 1) := by decide +kernel
theorem dX6_kept_12 : decode cX6_kept 12 = .ok (.iload_n 1, 1) := by decide +kernel
theorem dX6_kept_13 : decode cX6_kept 13 = .ok (.iload_n 2, 1) := by decide +kernel
theorem dX6_kept_14 : decode cX6_kept 14 = .ok (.invokevirtual 140, 3) := by decide +kernel
theorem dX6_kept_17 : decode cX6_kept 17 = .ok (.getfield 163, 3) := by decide +kernel
theorem dX6_kept_20 : decode cX6_kept 20 = .ok (.getfield 166, 3) := by decide +kernel
theorem dX6_kept_23 : decode cX6_kept 23 = .ok (.lreturn, 1) := by decide +kernel
set_option maxRecDepth 20000 in
theorem ggX6_asker_X6_needIndex : GoodIn wsX6_asker wsX6_needIndex := goodIn_ca (goodIn_r _ [7, 1, 2] (by decide +kernel) (by decide +kernel)) (goodIn_sub (fun _ h => List.mem_cons_of_mem _ (List.mem_append_right _ h)) (by decide +kernel))
set_option maxRecDepth 20000 in
theorem gX6_asker_X6_needIndex : GoodIn wsX6_asker (va_wsS RX6 57 yX6_needIndex wsX6_needIndex) := goodIn_app (goodIn_of _ (by decide +kernel)) ggX6_asker_X6_needIndex
set_option maxRecDepth 20000 in
theorem ggX6_asker_X3_answers : GoodIn wsX6_asker wsX3_answers := goodIn_r _ [11, 12, 13, 14, 15, 16, 17, 18, 19, 32, 33, 34, 35, 36, 37, 38, 39, 40, 41, 42, 43, 44, 45, 46] (by decide +kernel) (by decide +kernel)
set_option maxRecDepth 20000 in
theorem gX6_asker_X3_answers_n174 : GoodIn wsX6_asker (wsX3_answers) := ggX6_asker_X3_answers
theorem dX6_asker_0 : decode cX6_asker 0 = .ok (.iload_n 1, 1) := by decide +kernel
theorem dX6_asker_1 : decode cX6_asker 1 = .ok (.iconst 4, 1) := by decide +kernel
theorem dX6_asker_2 : decode cX6_asker 2 = .ok (.invokestatic 57, 3) := by decide +kernel
theorem dX6_asker_5 : decode cX6_asker 5 = .ok (.aload_n 0, 1) := by decide +kernel
theorem dX6_asker_6 : decode cX6_asker 6 = .ok (.getfield 33, 3) := by decide +kernel
theorem dX6_asker_9 : decode cX6_asker 9 = .ok (.iload_n 1, 1) := by decide +kernel
theorem dX6_asker_10 : decode cX6_asker 10 = .ok (.aaload, 1) := by decide +kernel
theorem dX6_asker_11 : decode cX6_asker 11 = .ok (.getfield 65, 3) := by decide +kernel
theorem dX6_asker_14 : decode cX6_asker 14 = .ok (.astore_n 3, 1) := by decide +kernel
theorem dX6_asker_15 : decode cX6_asker 15 = .ok (.iload_n 2, 1) := by decide +kernel
theorem dX6_asker_16 : decode cX6_asker 16 = .ok (.tableswitch 85 0 3 #[32, 42, 55, 72], 32) := by decide +kernel
theorem dX6_asker_48 : decode cX6_asker 48 = .ok (.aload_n 0, 1) := by decide +kernel
theorem dX6_asker_49 : decode cX6_asker 49 = .ok (.getfield 33, 3) := by decide +kernel
theorem dX6_asker_52 : decode cX6_asker 52 = .ok (.iload_n 1, 1) := by decide +kernel
theorem dX6_asker_53 : decode cX6_asker 53 = .ok (.aaload, 1) := by decide +kernel
theorem dX6_asker_54 : decode cX6_asker 54 = .ok (.getfield 69, 3) := by decide +kernel
theorem dX6_asker_57 : decode cX6_asker 57 = .ok (.ireturn, 1) := by decide +kernel
theorem dX6_asker_58 : decode cX6_asker 58 = .ok (.aload_n 3, 1) := by decide +kernel
theorem dX6_asker_59 : decode cX6_asker 59 = .ok (.ifnonnull 7, 3) := by decide +kernel
theorem dX6_asker_62 : decode cX6_asker 62 = .ok (.iconst (-1), 1) := by decide +kernel
theorem dX6_asker_63 : decode cX6_asker 63 = .ok (.goto 7, 3) := by decide +kernel
theorem dX6_asker_66 : decode cX6_asker 66 = .ok (.aload_n 3, 1) := by decide +kernel
theorem dX6_asker_67 : decode cX6_asker 67 = .ok (.getfield 83, 3) := by decide +kernel
theorem dX6_asker_70 : decode cX6_asker 70 = .ok (.ireturn, 1) := by decide +kernel
theorem dX6_asker_71 : decode cX6_asker 71 = .ok (.aload_n 3, 1) := by decide +kernel
theorem dX6_asker_72 : decode cX6_asker 72 = .ok (.ifnull 14, 3) := by decide +kernel
theorem dX6_asker_75 : decode cX6_asker 75 = .ok (.aload_n 3, 1) := by decide +kernel
theorem dX6_asker_76 : decode cX6_asker 76 = .ok (.getfield 170, 3) := by decide +kernel
theorem dX6_asker_79 : decode cX6_asker 79 = .ok (.ifCond .eq 7, 3) := by decide +kernel
theorem dX6_asker_82 : decode cX6_asker 82 = .ok (.iconst 1, 1) := by decide +kernel
theorem dX6_asker_83 : decode cX6_asker 83 = .ok (.goto 4, 3) := by decide +kernel
theorem dX6_asker_86 : decode cX6_asker 86 = .ok (.iconst 0, 1) := by decide +kernel
theorem dX6_asker_87 : decode cX6_asker 87 = .ok (.ireturn, 1) := by decide +kernel
theorem dX6_asker_88 : decode cX6_asker 88 = .ok (.aload_n 3, 1) := by decide +kernel
theorem dX6_asker_89 : decode cX6_asker 89 = .ok (.ifnonnull 7, 3) := by decide +kernel
theorem dX6_asker_92 : decode cX6_asker 92 = .ok (.iconst 0, 1) := by decide +kernel
theorem dX6_asker_93 : decode cX6_asker 93 = .ok (.goto 7, 3) := by decide +kernel
theorem dX6_asker_96 : decode cX6_asker 96 = .ok (.aload_n 3, 1) := by decide +kernel
theorem dX6_asker_97 : decode cX6_asker 97 = .ok (.invokevirtual 174, 3) := by decide +kernel
theorem dX6_asker_100 : decode cX6_asker 100 = .ok (.ireturn, 1) := by decide +kernel
theorem dX6_asker_101 : decode cX6_asker 101 = .ok (.new 152, 3) := by decide +kernel
theorem dX6_asker_104 : decode cX6_asker 104 = .ok (.dup, 1) := by decide +kernel
theorem dX6_asker_105 : decode cX6_asker 105 = .ok (.ldc 177, 2) := by decide +kernel
theorem dX6_asker_107 : decode cX6_asker 107 = .ok (.invokespecial 156, 3) := by decide +kernel
theorem dX6_asker_110 : decode cX6_asker 110 = .ok (.athrow, 1) := by decide +kernel
set_option maxRecDepth 20000 in
theorem ggX6_request_X6_requestAt : GoodIn wsX6_request wsX6_requestAt := goodIn_ca (goodIn_r _ [7, 1, 2, 8, 9, 10, 11, 6, 12, 34, 35, 36, 37, 38, 39, 40] (by decide +kernel) (by decide +kernel)) (goodIn_sub (fun _ h => List.mem_cons_of_mem _ (List.mem_append_right _ h)) (by decide +kernel))
set_option maxRecDepth 20000 in
theorem gX6_request_X6_requestAt : GoodIn wsX6_request (wsV RX6 179 RX6 yX6_requestAt wsX6_requestAt) := goodIn_app (goodIn_of _ (by decide +kernel)) ggX6_request_X6_requestAt
set_option maxRecDepth 20000 in
theorem ggX6_request_X5_versionOrNone : GoodIn wsX6_request wsX5_versionOrNone := goodIn_r _ [16, 17, 18, 41, 42, 43] (by decide +kernel) (by decide +kernel)
set_option maxRecDepth 20000 in
theorem gX6_request_X5_versionOrNone_n148 : GoodIn wsX6_request (wsX5_versionOrNone) := ggX6_request_X5_versionOrNone
theorem dX6_request_0 : decode cX6_request 0 = .ok (.aload_n 0, 1) := by decide +kernel
theorem dX6_request_1 : decode cX6_request 1 = .ok (.iload_n 1, 1) := by decide +kernel
theorem dX6_request_2 : decode cX6_request 2 = .ok (.invokevirtual 179, 3) := by decide +kernel
theorem dX6_request_5 : decode cX6_request 5 = .ok (.astore_n 3, 1) := by decide +kernel
theorem dX6_request_6 : decode cX6_request 6 = .ok (.iload_n 2, 1) := by decide +kernel
theorem dX6_request_7 : decode cX6_request 7 = .ok (.tableswitch 80 0 3 #[29, 34, 55, 75], 29) := by decide +kernel
theorem dX6_request_36 : decode cX6_request 36 = .ok (.aload_n 3, 1) := by decide +kernel
theorem dX6_request_37 : decode cX6_request 37 = .ok (.getfield 183, 3) := by decide +kernel
theorem dX6_request_40 : decode cX6_request 40 = .ok (.ireturn, 1) := by decide +kernel
theorem dX6_request_41 : decode cX6_request 41 = .ok (.aload_n 3, 1) := by decide +kernel
theorem dX6_request_42 : decode cX6_request 42 = .ok (.getfield 183, 3) := by decide +kernel
theorem dX6_request_45 : decode cX6_request 45 = .ok (.iconst 1, 1) := by decide +kernel
theorem dX6_request_46 : decode cX6_request 46 = .ok (.if_icmp .ne 14, 3) := by decide +kernel
theorem dX6_request_49 : decode cX6_request 49 = .ok (.aload_n 3, 1) := by decide +kernel
theorem dX6_request_50 : decode cX6_request 50 = .ok (.getfield 186, 3) := by decide +kernel
theorem dX6_request_53 : decode cX6_request 53 = .ok (.ifCond .eq 7, 3) := by decide +kernel
theorem dX6_request_56 : decode cX6_request 56 = .ok (.iconst 1, 1) := by decide +kernel
theorem dX6_request_57 : decode cX6_request 57 = .ok (.goto 4, 3) := by decide +kernel
theorem dX6_request_60 : decode cX6_request 60 = .ok (.iconst 0, 1) := by decide +kernel
theorem dX6_request_61 : decode cX6_request 61 = .ok (.ireturn, 1) := by decide +kernel
theorem dX6_request_62 : decode cX6_request 62 = .ok (.aload_n 3, 1) := by decide +kernel
theorem dX6_request_63 : decode cX6_request 63 = .ok (.getfield 183, 3) := by decide +kernel
theorem dX6_request_66 : decode cX6_request 66 = .ok (.iconst 1, 1) := by decide +kernel
theorem dX6_request_67 : decode cX6_request 67 = .ok (.if_icmp .ne 13, 3) := by decide +kernel
theorem dX6_request_70 : decode cX6_request 70 = .ok (.aload_n 3, 1) := by decide +kernel
theorem dX6_request_71 : decode cX6_request 71 = .ok (.getfield 189, 3) := by decide +kernel
theorem dX6_request_74 : decode cX6_request 74 = .ok (.invokevirtual 148, 3) := by decide +kernel
theorem dX6_request_77 : decode cX6_request 77 = .ok (.goto 4, 3) := by decide +kernel
theorem dX6_request_80 : decode cX6_request 80 = .ok (.iconst (-1), 1) := by decide +kernel
theorem dX6_request_81 : decode cX6_request 81 = .ok (.ireturn, 1) := by decide +kernel
theorem dX6_request_82 : decode cX6_request 82 = .ok (.aload_n 3, 1) := by decide +kernel
theorem dX6_request_83 : decode cX6_request 83 = .ok (.getfield 190, 3) := by decide +kernel
theorem dX6_request_86 : decode cX6_request 86 = .ok (.ireturn, 1) := by decide +kernel
theorem dX6_request_87 : decode cX6_request 87 = .ok (.new 152, 3) := by decide +kernel
theorem dX6_request_90 : decode cX6_request 90 = .ok (.dup, 1) := by decide +kernel
theorem dX6_request_91 : decode cX6_request 91 = .ok (.ldc 191, 2) := by decide +kernel
theorem dX6_request_93 : decode cX6_request 93 = .ok (.invokespecial 156, 3) := by decide +kernel
theorem dX6_request_96 : decode cX6_request 96 = .ok (.athrow, 1) := by decide +kernel
set_option maxRecDepth 20000 in
theorem ggX6_result_X6_requestAt : GoodIn wsX6_result wsX6_requestAt := goodIn_ca (goodIn_r _ [5, 6, 7, 8, 9, 10, 11, 4, 12, 31, 32, 33, 34, 35, 36, 37] (by decide +kernel) (by decide +kernel)) (goodIn_sub (fun _ h => List.mem_cons_of_mem _ (List.mem_append_right _ h)) (by decide +kernel))
set_option maxRecDepth 20000 in
theorem gX6_result_X6_requestAt : GoodIn wsX6_result (wsV RX6 179 RX6 yX6_requestAt wsX6_requestAt) := goodIn_app (goodIn_of _ (by decide +kernel)) ggX6_result_X6_requestAt
theorem dX6_result_0 : decode cX6_result 0 = .ok (.aload_n 0, 1) := by decide +kernel
theorem dX6_result_1 : decode cX6_result 1 = .ok (.iload_n 1, 1) := by decide +kernel
theorem dX6_result_2 : decode cX6_result 2 = .ok (.invokevirtual 179, 3) := by decide +kernel
theorem dX6_result_5 : decode cX6_result 5 = .ok (.astore_n 2, 1) := by decide +kernel
theorem dX6_result_6 : decode cX6_result 6 = .ok (.aload_n 2, 1) := by decide +kernel
theorem dX6_result_7 : decode cX6_result 7 = .ok (.getfield 183, 3) := by decide +kernel
theorem dX6_result_10 : decode cX6_result 10 = .ok (.iconst 1, 1) := by decide +kernel
theorem dX6_result_11 : decode cX6_result 11 = .ok (.if_icmp .ne 13, 3) := by decide +kernel
theorem dX6_result_14 : decode cX6_result 14 = .ok (.aload_n 2, 1) := by decide +kernel
theorem dX6_result_15 : decode cX6_result 15 = .ok (.getfield 189, 3) := by decide +kernel
theorem dX6_result_18 : decode cX6_result 18 = .ok (.getfield 166, 3) := by decide +kernel
theorem dX6_result_21 : decode cX6_result 21 = .ok (.goto 4, 3) := by decide +kernel
theorem dX6_result_24 : decode cX6_result 24 = .ok (.lconst 0, 1) := by decide +kernel
theorem dX6_result_25 : decode cX6_result 25 = .ok (.lreturn, 1) := by decide +kernel
theorem dX6_needIndex_0 : decode cX6_needIndex 0 = .ok (.iload_n 0, 1) := by decide +kernel
theorem dX6_needIndex_1 : decode cX6_needIndex 1 = .ok (.ifCond .lt 8, 3) := by decide +kernel
theorem dX6_needIndex_4 : decode cX6_needIndex 4 = .ok (.iload_n 0, 1) := by decide +kernel
theorem dX6_needIndex_5 : decode cX6_needIndex 5 = .ok (.iload_n 1, 1) := by decide +kernel
theorem dX6_needIndex_6 : decode cX6_needIndex 6 = .ok (.if_icmp .lt 13, 3) := by decide +kernel
theorem dX6_needIndex_9 : decode cX6_needIndex 9 = .ok (.new 152, 3) := by decide +kernel
theorem dX6_needIndex_12 : decode cX6_needIndex 12 = .ok (.dup, 1) := by decide +kernel
theorem dX6_needIndex_13 : decode cX6_needIndex 13 = .ok (.ldc 193, 2) := by decide +kernel
theorem dX6_needIndex_15 : decode cX6_needIndex 15 = .ok (.invokespecial 156, 3) := by decide +kernel
theorem dX6_needIndex_18 : decode cX6_needIndex 18 = .ok (.athrow, 1) := by decide +kernel
theorem dX6_needIndex_19 : decode cX6_needIndex 19 = .ok (.return_, 1) := by decide +kernel
theorem dX6_needRange_0 : decode cX6_needRange 0 = .ok (.iload_n 0, 1) := by decide +kernel
theorem dX6_needRange_1 : decode cX6_needRange 1 = .ok (.iload_n 1, 1) := by decide +kernel
theorem dX6_needRange_2 : decode cX6_needRange 2 = .ok (.if_icmp .lt 8, 3) := by decide +kernel
theorem dX6_needRange_5 : decode cX6_needRange 5 = .ok (.iload_n 0, 1) := by decide +kernel
theorem dX6_needRange_6 : decode cX6_needRange 6 = .ok (.iload_n 2, 1) := by decide +kernel
theorem dX6_needRange_7 : decode cX6_needRange 7 = .ok (.if_icmp .le 13, 3) := by decide +kernel
theorem dX6_needRange_10 : decode cX6_needRange 10 = .ok (.new 195, 3) := by decide +kernel
theorem dX6_needRange_13 : decode cX6_needRange 13 = .ok (.dup, 1) := by decide +kernel
theorem dX6_needRange_14 : decode cX6_needRange 14 = .ok (.ldc 197, 2) := by decide +kernel
theorem dX6_needRange_16 : decode cX6_needRange 16 = .ok (.invokespecial 199, 3) := by decide +kernel
theorem dX6_needRange_19 : decode cX6_needRange 19 = .ok (.athrow, 1) := by decide +kernel
theorem dX6_needRange_20 : decode cX6_needRange 20 = .ok (.return_, 1) := by decide +kernel
set_option maxRecDepth 20000 in
theorem ggX6_requestAt_X6_needIndex : GoodIn wsX6_requestAt wsX6_needIndex := goodIn_ca (goodIn_r _ [8, 1, 2] (by decide +kernel) (by decide +kernel)) (goodIn_sub (fun _ h => List.mem_cons_of_mem _ (List.mem_append_right _ h)) (by decide +kernel))
set_option maxRecDepth 20000 in
theorem gX6_requestAt_X6_needIndex : GoodIn wsX6_requestAt (va_wsS RX6 57 yX6_needIndex wsX6_needIndex) := goodIn_app (goodIn_of _ (by decide +kernel)) ggX6_requestAt_X6_needIndex
theorem dX6_requestAt_0 : decode cX6_requestAt 0 = .ok (.iload_n 1, 1) := by decide +kernel
theorem dX6_requestAt_1 : decode cX6_requestAt 1 = .ok (.aload_n 0, 1) := by decide +kernel
theorem dX6_requestAt_2 : decode cX6_requestAt 2 = .ok (.getfield 53, 3) := by decide +kernel
theorem dX6_requestAt_5 : decode cX6_requestAt 5 = .ok (.invokestatic 57, 3) := by decide +kernel
theorem dX6_requestAt_8 : decode cX6_requestAt 8 = .ok (.aload_n 0, 1) := by decide +kernel
theorem dX6_requestAt_9 : decode cX6_requestAt 9 = .ok (.getfield 42, 3) := by decide +kernel
theorem dX6_requestAt_12 : decode cX6_requestAt 12 = .ok (.iload_n 1, 1) := by decide +kernel
theorem dX6_requestAt_13 : decode cX6_requestAt 13 = .ok (.aaload, 1) := by decide +kernel
theorem dX6_requestAt_14 : decode cX6_requestAt 14 = .ok (.astore_n 2, 1) := by decide +kernel
theorem dX6_requestAt_15 : decode cX6_requestAt 15 = .ok (.aload_n 2, 1) := by decide +kernel
theorem dX6_requestAt_16 : decode cX6_requestAt 16 = .ok (.ifnonnull 13, 3) := by decide +kernel
theorem dX6_requestAt_19 : decode cX6_requestAt 19 = .ok (.new 152, 3) := by decide +kernel
theorem dX6_requestAt_22 : decode cX6_requestAt 22 = .ok (.dup, 1) := by decide +kernel
theorem dX6_requestAt_23 : decode cX6_requestAt 23 = .ok (.ldc 193, 2) := by decide +kernel
theorem dX6_requestAt_25 : decode cX6_requestAt 25 = .ok (.invokespecial 156, 3) := by decide +kernel
theorem dX6_requestAt_28 : decode cX6_requestAt 28 = .ok (.athrow, 1) := by decide +kernel
theorem dX6_requestAt_29 : decode cX6_requestAt 29 = .ok (.aload_n 2, 1) := by decide +kernel
theorem dX6_requestAt_30 : decode cX6_requestAt 30 = .ok (.areturn, 1) := by decide +kernel
theorem dX6_registerOf_0 : decode cX6_registerOf 0 = .ok (.aload_n 0, 1) := by decide +kernel
theorem dX6_registerOf_1 : decode cX6_registerOf 1 = .ok (.getfield 20, 3) := by decide +kernel
theorem dX6_registerOf_4 : decode cX6_registerOf 4 = .ok (.iload_n 1, 1) := by decide +kernel
theorem dX6_registerOf_5 : decode cX6_registerOf 5 = .ok (.iconst 4, 1) := by decide +kernel
theorem dX6_registerOf_6 : decode cX6_registerOf 6 = .ok (.imul, 1) := by decide +kernel
theorem dX6_registerOf_7 : decode cX6_registerOf 7 = .ok (.iload_n 2, 1) := by decide +kernel
theorem dX6_registerOf_8 : decode cX6_registerOf 8 = .ok (.iadd, 1) := by decide +kernel
theorem dX6_registerOf_9 : decode cX6_registerOf 9 = .ok (.aaload, 1) := by decide +kernel
theorem dX6_registerOf_10 : decode cX6_registerOf 10 = .ok (.areturn, 1) := by decide +kernel
set_option maxRecDepth 20000 in
theorem ggX6_deliver_X4_drawOut : GoodIn wsX6_deliver wsX4_drawOut := goodIn_r _ [5, 6, 7, 137, 138] (by decide +kernel) (by decide +kernel)
set_option maxRecDepth 20000 in
theorem gX6_deliver_X4_drawOut_n105 : GoodIn wsX6_deliver (wsX4_drawOut) := ggX6_deliver_X4_drawOut
set_option maxRecDepth 20000 in
theorem ggX6_deliver_X6_takePrepare : GoodIn wsX6_deliver wsX6_takePrepare := goodIn_r _ [12, 13, 14, 15, 16, 17, 11, 18, 19, 20, 21, 22, 23, 24, 25, 26, 27, 28, 29, 30, 31, 32, 33, 1, 34, 3, 35, 36, 7, 6, 123, 124, 125, 126, 127, 128, 129, 130, 131, 132, 133, 134, 135, 136, 139, 140, 141, 137, 138] (by decide +kernel) (by decide +kernel)
set_option maxRecDepth 20000 in
theorem gX6_deliver_X6_takePrepare : GoodIn wsX6_deliver (wsV RX6 200 RX6 yX6_takePrepare wsX6_takePrepare) := goodIn_app (goodIn_of _ (by decide +kernel)) ggX6_deliver_X6_takePrepare
set_option maxRecDepth 20000 in
theorem ggX6_deliver_X6_takePromised : GoodIn wsX6_deliver wsX6_takePromised := goodIn_r _ [40, 41, 42, 43, 11, 44, 45, 46, 47, 48, 49, 50, 51, 52, 53, 54, 55, 56, 57, 58, 59, 60, 61, 62, 63, 64, 65, 66, 67, 68, 69, 70, 71, 72, 73, 74, 75, 76, 77, 78, 79, 80, 81, 82, 83, 84, 85, 86, 87, 88, 89, 90, 91, 92, 93, 94, 95, 96, 97, 98, 99, 100, 101, 102, 1, 34, 3, 35, 36, 7, 6, 130, 131, 132, 133, 134, 135, 136, 142, 143, 144, 145, 146, 147, 148, 149, 150, 151, 152, 153, 154, 155, 156, 123, 124, 125, 126, 127, 128, 129, 157, 158, 159, 160, 161, 162, 163, 164, 137, 138] (by decide +kernel) (by decide +kernel)
set_option maxRecDepth 20000 in
theorem gX6_deliver_X6_takePromised : GoodIn wsX6_deliver (wsV RX6 204 RX6 yX6_takePromised wsX6_takePromised) := goodIn_app (goodIn_of _ (by decide +kernel)) ggX6_deliver_X6_takePromised
set_option maxRecDepth 20000 in
theorem ggX6_deliver_X6_takeAccept : GoodIn wsX6_deliver wsX6_takeAccept := goodIn_r _ [106, 13, 14, 15, 16, 17, 11, 18, 19, 20, 21, 22, 23, 24, 25, 26, 27, 28, 29, 107, 108, 109, 110, 30, 31, 32, 33, 1, 34, 3, 35, 36, 7, 6, 123, 124, 125, 126, 127, 128, 129, 130, 131, 132, 133, 134, 135, 136, 139, 140, 141, 137, 138] (by decide +kernel) (by decide +kernel)
set_option maxRecDepth 20000 in
theorem gX6_deliver_X6_takeAccept : GoodIn wsX6_deliver (wsV RX6 207 RX6 yX6_takeAccept wsX6_takeAccept) := goodIn_app (goodIn_of _ (by decide +kernel)) ggX6_deliver_X6_takeAccept
set_option maxRecDepth 20000 in
theorem ggX6_deliver_X6_takeTaken : GoodIn wsX6_deliver wsX6_takeTaken := goodIn_r _ [114, 45, 41, 42, 43, 11, 44, 46, 47, 48, 49, 50, 56, 57, 58, 59, 60, 61, 62, 63, 64, 65, 66, 67, 68, 115, 116, 117, 130, 131, 132, 133, 134, 135, 136, 142, 143, 144, 145, 146, 147, 148, 149, 150, 151, 152, 153, 154, 155, 156, 123, 124, 125, 126, 127, 128, 129, 157, 158, 159, 160, 161] (by decide +kernel) (by decide +kernel)
set_option maxRecDepth 20000 in
theorem gX6_deliver_X6_takeTaken : GoodIn wsX6_deliver (wsV RX6 210 RX6 yX6_takeTaken wsX6_takeTaken) := goodIn_app (goodIn_of _ (by decide +kernel)) ggX6_deliver_X6_takeTaken
set_option maxRecDepth 20000 in
theorem ggX6_deliver_X6_takeRefused : GoodIn wsX6_deliver wsX6_takeRefused := goodIn_r _ [121, 45, 122, 27, 28, 29, 115, 116, 11, 117, 123, 124, 125, 126, 127, 128, 129, 130, 131, 132, 133, 134, 135, 136, 157, 158, 159, 160, 161, 142, 143, 144, 145, 146, 147, 148, 149, 150, 151, 152, 153, 154, 155, 156] (by decide +kernel) (by decide +kernel)
set_option maxRecDepth 20000 in
theorem gX6_deliver_X6_takeRefused : GoodIn wsX6_deliver (wsV RX6 213 RX6 yX6_takeRefused wsX6_takeRefused) := goodIn_app (goodIn_of _ (by decide +kernel)) ggX6_deliver_X6_takeRefused
theorem dX6_deliver_0 : decode cX6_deliver 0 = .ok (.aload_n 0, 1) := by decide +kernel
theorem dX6_deliver_1 : decode cX6_deliver 1 = .ok (.getfield 49, 3) := by decide +kernel
theorem dX6_deliver_4 : decode cX6_deliver 4 = .ok (.iload_n 1, 1) := by decide +kernel
theorem dX6_deliver_5 : decode cX6_deliver 5 = .ok (.invokevirtual 105, 3) := by decide +kernel
theorem dX6_deliver_8 : decode cX6_deliver 8 = .ok (.astore_n 2, 1) := by decide +kernel
theorem dX6_deliver_9 : decode cX6_deliver 9 = .ok (.aload_n 2, 1) := by decide +kernel
theorem dX6_deliver_10 : decode cX6_deliver 10 = .ok (.getfield 109, 3) := by decide +kernel
theorem dX6_deliver_13 : decode cX6_deliver 13 = .ok (.tableswitch 63 0 3 #[31, 39, 47, 55], 31) := by decide +kernel
theorem dX6_deliver_44 : decode cX6_deliver 44 = .ok (.aload_n 0, 1) := by decide +kernel
theorem dX6_deliver_45 : decode cX6_deliver 45 = .ok (.aload_n 2, 1) := by decide +kernel
theorem dX6_deliver_46 : decode cX6_deliver 46 = .ok (.invokevirtual 200, 3) := by decide +kernel
theorem dX6_deliver_49 : decode cX6_deliver 49 = .ok (.goto 32, 3) := by decide +kernel
theorem dX6_deliver_52 : decode cX6_deliver 52 = .ok (.aload_n 0, 1) := by decide +kernel
theorem dX6_deliver_53 : decode cX6_deliver 53 = .ok (.aload_n 2, 1) := by decide +kernel
theorem dX6_deliver_54 : decode cX6_deliver 54 = .ok (.invokevirtual 204, 3) := by decide +kernel
theorem dX6_deliver_57 : decode cX6_deliver 57 = .ok (.goto 24, 3) := by decide +kernel
theorem dX6_deliver_60 : decode cX6_deliver 60 = .ok (.aload_n 0, 1) := by decide +kernel
theorem dX6_deliver_61 : decode cX6_deliver 61 = .ok (.aload_n 2, 1) := by decide +kernel
theorem dX6_deliver_62 : decode cX6_deliver 62 = .ok (.invokevirtual 207, 3) := by decide +kernel
theorem dX6_deliver_65 : decode cX6_deliver 65 = .ok (.goto 16, 3) := by decide +kernel
theorem dX6_deliver_68 : decode cX6_deliver 68 = .ok (.aload_n 0, 1) := by decide +kernel
theorem dX6_deliver_69 : decode cX6_deliver 69 = .ok (.aload_n 2, 1) := by decide +kernel
theorem dX6_deliver_70 : decode cX6_deliver 70 = .ok (.invokevirtual 210, 3) := by decide +kernel
theorem dX6_deliver_73 : decode cX6_deliver 73 = .ok (.goto 8, 3) := by decide +kernel
theorem dX6_deliver_76 : decode cX6_deliver 76 = .ok (.aload_n 0, 1) := by decide +kernel
theorem dX6_deliver_77 : decode cX6_deliver 77 = .ok (.aload_n 2, 1) := by decide +kernel
theorem dX6_deliver_78 : decode cX6_deliver 78 = .ok (.invokevirtual 213, 3) := by decide +kernel
theorem dX6_deliver_81 : decode cX6_deliver 81 = .ok (.aload_n 2, 1) := by decide +kernel
theorem dX6_deliver_82 : decode cX6_deliver 82 = .ok (.getfield 109, 3) := by decide +kernel
theorem dX6_deliver_85 : decode cX6_deliver 85 = .ok (.ireturn, 1) := by decide +kernel
set_option maxRecDepth 20000 in
theorem ggX6_takePrepare_X6_registerOf : GoodIn wsX6_takePrepare wsX6_registerOf := goodIn_r _ [7, 8, 30, 31, 32, 33, 34, 35, 36] (by decide +kernel) (by decide +kernel)
set_option maxRecDepth 20000 in
theorem gX6_takePrepare_X6_registerOf : GoodIn wsX6_takePrepare (wsV RX6 140 RX6 yX6_registerOf wsX6_registerOf) := goodIn_app (goodIn_of _ (by decide +kernel)) ggX6_takePrepare_X6_registerOf
set_option maxRecDepth 20000 in
theorem ggX6_takePrepare_X2_greaterBallot : GoodIn wsX6_takePrepare wsX2_greaterBallot := goodIn_r _ [12, 13, 14, 15, 16, 17, 18, 44, 45, 46] (by decide +kernel) (by decide +kernel)
set_option maxRecDepth 20000 in
theorem gX6_takePrepare_X2_greaterBallot_n216 : GoodIn wsX6_takePrepare (wsX2_greaterBallot) := ggX6_takePrepare_X2_greaterBallot
set_option maxRecDepth 20000 in
theorem ggX6_takePrepare_X6_sendBack : GoodIn wsX6_takePrepare wsX6_sendBack := goodIn_r _ [22, 23, 24, 25, 26, 27, 28, 29, 30, 31, 32, 33, 34, 35, 36, 37, 38, 39, 40, 41, 42, 43, 47, 48] (by decide +kernel) (by decide +kernel)
set_option maxRecDepth 20000 in
theorem gX6_takePrepare_X6_sendBack : GoodIn wsX6_takePrepare (wsV RX6 219 RX6 yX6_sendBack wsX6_sendBack) := goodIn_app (goodIn_of _ (by decide +kernel)) ggX6_takePrepare_X6_sendBack
theorem dX6_takePrepare_0 : decode cX6_takePrepare 0 = .ok (.aload_n 0, 1) := by decide +kernel
theorem dX6_takePrepare_1 : decode cX6_takePrepare 1 = .ok (.getfield 27, 3) := by decide +kernel
theorem dX6_takePrepare_4 : decode cX6_takePrepare 4 = .ok (.aload_n 1, 1) := by decide +kernel
theorem dX6_takePrepare_5 : decode cX6_takePrepare 5 = .ok (.getfield 121, 3) := by decide +kernel
theorem dX6_takePrepare_8 : decode cX6_takePrepare 8 = .ok (.baload, 1) := by decide +kernel
theorem dX6_takePrepare_9 : decode cX6_takePrepare 9 = .ok (.ifCond .eq 4, 3) := by decide +kernel
theorem dX6_takePrepare_12 : decode cX6_takePrepare 12 = .ok (.return_, 1) := by decide +kernel
theorem dX6_takePrepare_13 : decode cX6_takePrepare 13 = .ok (.aload_n 0, 1) := by decide +kernel
theorem dX6_takePrepare_14 : decode cX6_takePrepare 14 = .ok (.aload_n 1, 1) := by decide +kernel
theorem dX6_takePrepare_15 : decode cX6_takePrepare 15 = .ok (.getfield 121, 3) := by decide +kernel
theorem dX6_takePrepare_18 : decode cX6_takePrepare 18 = .ok (.aload_n 1, 1) := by decide +kernel
theorem dX6_takePrepare_19 : decode cX6_takePrepare 19 = .ok (.getfield 127, 3) := by decide +kernel
theorem dX6_takePrepare_22 : decode cX6_takePrepare 22 = .ok (.invokevirtual 140, 3) := by decide +kernel
theorem dX6_takePrepare_25 : decode cX6_takePrepare 25 = .ok (.astore_n 2, 1) := by decide +kernel
theorem dX6_takePrepare_26 : decode cX6_takePrepare 26 = .ok (.aload_n 1, 1) := by decide +kernel
theorem dX6_takePrepare_27 : decode cX6_takePrepare 27 = .ok (.getfield 130, 3) := by decide +kernel
theorem dX6_takePrepare_30 : decode cX6_takePrepare 30 = .ok (.aload_n 2, 1) := by decide +kernel
theorem dX6_takePrepare_31 : decode cX6_takePrepare 31 = .ok (.invokevirtual 216, 3) := by decide +kernel
theorem dX6_takePrepare_34 : decode cX6_takePrepare 34 = .ok (.if_icmp .le 28, 3) := by decide +kernel
theorem dX6_takePrepare_37 : decode cX6_takePrepare 37 = .ok (.aload_n 2, 1) := by decide +kernel
theorem dX6_takePrepare_38 : decode cX6_takePrepare 38 = .ok (.aload_n 1, 1) := by decide +kernel
theorem dX6_takePrepare_39 : decode cX6_takePrepare 39 = .ok (.getfield 130, 3) := by decide +kernel
theorem dX6_takePrepare_42 : decode cX6_takePrepare 42 = .ok (.putfield 159, 3) := by decide +kernel
theorem dX6_takePrepare_45 : decode cX6_takePrepare 45 = .ok (.aload_n 0, 1) := by decide +kernel
theorem dX6_takePrepare_46 : decode cX6_takePrepare 46 = .ok (.iconst 1, 1) := by decide +kernel
theorem dX6_takePrepare_47 : decode cX6_takePrepare 47 = .ok (.aload_n 1, 1) := by decide +kernel
theorem dX6_takePrepare_48 : decode cX6_takePrepare 48 = .ok (.aload_n 2, 1) := by decide +kernel
theorem dX6_takePrepare_49 : decode cX6_takePrepare 49 = .ok (.getfield 162, 3) := by decide +kernel
theorem dX6_takePrepare_52 : decode cX6_takePrepare 52 = .ok (.aload_n 2, 1) := by decide +kernel
theorem dX6_takePrepare_53 : decode cX6_takePrepare 53 = .ok (.getfield 163, 3) := by decide +kernel
theorem dX6_takePrepare_56 : decode cX6_takePrepare 56 = .ok (.invokevirtual 219, 3) := by decide +kernel
theorem dX6_takePrepare_59 : decode cX6_takePrepare 59 = .ok (.goto 17, 3) := by decide +kernel
theorem dX6_takePrepare_62 : decode cX6_takePrepare 62 = .ok (.aload_n 0, 1) := by decide +kernel
theorem dX6_takePrepare_63 : decode cX6_takePrepare 63 = .ok (.iconst 4, 1) := by decide +kernel
theorem dX6_takePrepare_64 : decode cX6_takePrepare 64 = .ok (.aload_n 1, 1) := by decide +kernel
theorem dX6_takePrepare_65 : decode cX6_takePrepare 65 = .ok (.aload_n 2, 1) := by decide +kernel
theorem dX6_takePrepare_66 : decode cX6_takePrepare 66 = .ok (.invokevirtual 216, 3) := by decide +kernel
theorem dX6_takePrepare_69 : decode cX6_takePrepare 69 = .ok (.aload_n 0, 1) := by decide +kernel
theorem dX6_takePrepare_70 : decode cX6_takePrepare 70 = .ok (.getfield 12, 3) := by decide +kernel
theorem dX6_takePrepare_73 : decode cX6_takePrepare 73 = .ok (.invokevirtual 219, 3) := by decide +kernel
theorem dX6_takePrepare_76 : decode cX6_takePrepare 76 = .ok (.return_, 1) := by decide +kernel
set_option maxRecDepth 20000 in
theorem ggX6_takeAccept_X6_registerOf : GoodIn wsX6_takeAccept wsX6_registerOf := goodIn_r _ [7, 8, 34, 35, 36, 37, 38, 39, 40] (by decide +kernel) (by decide +kernel)
set_option maxRecDepth 20000 in
theorem gX6_takeAccept_X6_registerOf : GoodIn wsX6_takeAccept (wsV RX6 140 RX6 yX6_registerOf wsX6_registerOf) := goodIn_app (goodIn_of _ (by decide +kernel)) ggX6_takeAccept_X6_registerOf
set_option maxRecDepth 20000 in
theorem ggX6_takeAccept_X2_greaterBallot : GoodIn wsX6_takeAccept wsX2_greaterBallot := goodIn_r _ [12, 13, 14, 15, 16, 17, 18, 48, 49, 50] (by decide +kernel) (by decide +kernel)
set_option maxRecDepth 20000 in
theorem gX6_takeAccept_X2_greaterBallot_n216 : GoodIn wsX6_takeAccept (wsX2_greaterBallot) := ggX6_takeAccept_X2_greaterBallot
set_option maxRecDepth 20000 in
theorem ggX6_takeAccept_X2_accept : GoodIn wsX6_takeAccept wsX2_accept := goodIn_r _ [21, 14, 22, 13, 48, 49, 50] (by decide +kernel) (by decide +kernel)
set_option maxRecDepth 20000 in
theorem gX6_takeAccept_X2_accept_n223 : GoodIn wsX6_takeAccept (wsX2_accept) := ggX6_takeAccept_X2_accept
set_option maxRecDepth 20000 in
theorem ggX6_takeAccept_X6_sendBack : GoodIn wsX6_takeAccept wsX6_sendBack := goodIn_r _ [26, 27, 28, 29, 30, 31, 32, 33, 34, 35, 36, 37, 38, 39, 40, 41, 42, 43, 44, 45, 46, 47, 51, 52] (by decide +kernel) (by decide +kernel)
set_option maxRecDepth 20000 in
theorem gX6_takeAccept_X6_sendBack : GoodIn wsX6_takeAccept (wsV RX6 219 RX6 yX6_sendBack wsX6_sendBack) := goodIn_app (goodIn_of _ (by decide +kernel)) ggX6_takeAccept_X6_sendBack
theorem dX6_takeAccept_0 : decode cX6_takeAccept 0 = .ok (.aload_n 0, 1) := by decide +kernel
theorem dX6_takeAccept_1 : decode cX6_takeAccept 1 = .ok (.getfield 27, 3) := by decide +kernel
theorem dX6_takeAccept_4 : decode cX6_takeAccept 4 = .ok (.aload_n 1, 1) := by decide +kernel
theorem dX6_takeAccept_5 : decode cX6_takeAccept 5 = .ok (.getfield 121, 3) := by decide +kernel
theorem dX6_takeAccept_8 : decode cX6_takeAccept 8 = .ok (.baload, 1) := by decide +kernel
theorem dX6_takeAccept_9 : decode cX6_takeAccept 9 = .ok (.ifCond .eq 4, 3) := by decide +kernel
theorem dX6_takeAccept_12 : decode cX6_takeAccept 12 = .ok (.return_, 1) := by decide +kernel
theorem dX6_takeAccept_13 : decode cX6_takeAccept 13 = .ok (.aload_n 0, 1) := by decide +kernel
theorem dX6_takeAccept_14 : decode cX6_takeAccept 14 = .ok (.aload_n 1, 1) := by decide +kernel
theorem dX6_takeAccept_15 : decode cX6_takeAccept 15 = .ok (.getfield 121, 3) := by decide +kernel
theorem dX6_takeAccept_18 : decode cX6_takeAccept 18 = .ok (.aload_n 1, 1) := by decide +kernel
theorem dX6_takeAccept_19 : decode cX6_takeAccept 19 = .ok (.getfield 127, 3) := by decide +kernel
theorem dX6_takeAccept_22 : decode cX6_takeAccept 22 = .ok (.invokevirtual 140, 3) := by decide +kernel
theorem dX6_takeAccept_25 : decode cX6_takeAccept 25 = .ok (.astore_n 2, 1) := by decide +kernel
theorem dX6_takeAccept_26 : decode cX6_takeAccept 26 = .ok (.aload_n 1, 1) := by decide +kernel
theorem dX6_takeAccept_27 : decode cX6_takeAccept 27 = .ok (.getfield 130, 3) := by decide +kernel
theorem dX6_takeAccept_30 : decode cX6_takeAccept 30 = .ok (.aload_n 2, 1) := by decide +kernel
theorem dX6_takeAccept_31 : decode cX6_takeAccept 31 = .ok (.invokevirtual 216, 3) := by decide +kernel
theorem dX6_takeAccept_34 : decode cX6_takeAccept 34 = .ok (.if_icmp .lt 32, 3) := by decide +kernel
theorem dX6_takeAccept_37 : decode cX6_takeAccept 37 = .ok (.aload_n 2, 1) := by decide +kernel
theorem dX6_takeAccept_38 : decode cX6_takeAccept 38 = .ok (.aload_n 1, 1) := by decide +kernel
theorem dX6_takeAccept_39 : decode cX6_takeAccept 39 = .ok (.getfield 130, 3) := by decide +kernel
theorem dX6_takeAccept_42 : decode cX6_takeAccept 42 = .ok (.aload_n 1, 1) := by decide +kernel
theorem dX6_takeAccept_43 : decode cX6_takeAccept 43 = .ok (.getfield 133, 3) := by decide +kernel
theorem dX6_takeAccept_46 : decode cX6_takeAccept 46 = .ok (.invokevirtual 223, 3) := by decide +kernel
theorem dX6_takeAccept_49 : decode cX6_takeAccept 49 = .ok (.aload_n 0, 1) := by decide +kernel
theorem dX6_takeAccept_50 : decode cX6_takeAccept 50 = .ok (.iconst 3, 1) := by decide +kernel
theorem dX6_takeAccept_51 : decode cX6_takeAccept 51 = .ok (.aload_n 1, 1) := by decide +kernel
theorem dX6_takeAccept_52 : decode cX6_takeAccept 52 = .ok (.aload_n 1, 1) := by decide +kernel
theorem dX6_takeAccept_53 : decode cX6_takeAccept 53 = .ok (.getfield 130, 3) := by decide +kernel
theorem dX6_takeAccept_56 : decode cX6_takeAccept 56 = .ok (.aload_n 0, 1) := by decide +kernel
theorem dX6_takeAccept_57 : decode cX6_takeAccept 57 = .ok (.getfield 12, 3) := by decide +kernel
theorem dX6_takeAccept_60 : decode cX6_takeAccept 60 = .ok (.invokevirtual 219, 3) := by decide +kernel
theorem dX6_takeAccept_63 : decode cX6_takeAccept 63 = .ok (.goto 17, 3) := by decide +kernel
theorem dX6_takeAccept_66 : decode cX6_takeAccept 66 = .ok (.aload_n 0, 1) := by decide +kernel
theorem dX6_takeAccept_67 : decode cX6_takeAccept 67 = .ok (.iconst 4, 1) := by decide +kernel
theorem dX6_takeAccept_68 : decode cX6_takeAccept 68 = .ok (.aload_n 1, 1) := by decide +kernel
theorem dX6_takeAccept_69 : decode cX6_takeAccept 69 = .ok (.aload_n 2, 1) := by decide +kernel
theorem dX6_takeAccept_70 : decode cX6_takeAccept 70 = .ok (.invokevirtual 216, 3) := by decide +kernel
theorem dX6_takeAccept_73 : decode cX6_takeAccept 73 = .ok (.aload_n 0, 1) := by decide +kernel
theorem dX6_takeAccept_74 : decode cX6_takeAccept 74 = .ok (.getfield 12, 3) := by decide +kernel
theorem dX6_takeAccept_77 : decode cX6_takeAccept 77 = .ok (.invokevirtual 219, 3) := by decide +kernel
theorem dX6_takeAccept_80 : decode cX6_takeAccept 80 = .ok (.return_, 1) := by decide +kernel
set_option maxRecDepth 20000 in
theorem ggX6_takePromised_X6_awaiting : GoodIn wsX6_takePromised wsX6_awaiting := goodIn_r _ [5, 6, 7, 8, 9, 10, 11, 93, 94, 95, 96, 97, 98, 99, 71, 72, 73, 74, 75, 76, 77, 100, 101, 102, 103, 104, 78, 79, 80, 81, 82, 83, 84, 85, 86, 87, 88, 89, 90, 91, 92] (by decide +kernel) (by decide +kernel)
set_option maxRecDepth 20000 in
theorem gX6_takePromised_X6_awaiting : GoodIn wsX6_takePromised (wsV RX6 227 RX6 yX6_awaiting wsX6_awaiting) := goodIn_app (goodIn_of _ (by decide +kernel)) ggX6_takePromised_X6_awaiting
set_option maxRecDepth 20000 in
theorem ggX6_takePromised_X3_hearState : GoodIn wsX6_takePromised wsX3_hearState := goodIn_r _ [14, 15, 16, 78, 79, 80, 81, 82, 83, 84, 85, 86, 87, 88, 89, 90, 91, 92] (by decide +kernel) (by decide +kernel)
set_option maxRecDepth 20000 in
theorem gX6_takePromised_X3_hearState_n231 : GoodIn wsX6_takePromised (wsX3_hearState) := ggX6_takePromised_X3_hearState
set_option maxRecDepth 20000 in
theorem ggX6_takePromised_X3_countAnswer : GoodIn wsX6_takePromised wsX3_countAnswer := goodIn_r _ [19, 11, 78, 79, 80, 81, 82, 83, 84, 85, 86, 87, 88, 89, 90, 91, 92] (by decide +kernel) (by decide +kernel)
set_option maxRecDepth 20000 in
theorem gX6_takePromised_X3_countAnswer_n234 : GoodIn wsX6_takePromised (wsX3_countAnswer) := ggX6_takePromised_X3_countAnswer
set_option maxRecDepth 20000 in
theorem ggX6_takePromised_X3_answers : GoodIn wsX6_takePromised wsX3_answers := goodIn_r _ [22, 11, 23, 24, 25, 26, 27, 28, 29, 78, 79, 80, 81, 82, 83, 84, 85, 86, 87, 88, 89, 90, 91, 92] (by decide +kernel) (by decide +kernel)
set_option maxRecDepth 20000 in
theorem gX6_takePromised_X3_answers_n174 : GoodIn wsX6_takePromised (wsX3_answers) := ggX6_takePromised_X3_answers
set_option maxRecDepth 20000 in
theorem ggX6_takePromised_X3_beginAccepting : GoodIn wsX6_takePromised wsX3_beginAccepting := goodIn_r _ [32, 16, 33, 34, 35, 36, 11, 37, 38, 39, 40, 41, 42, 43, 44, 45, 46, 47, 48, 49, 50, 51, 52, 53, 54, 55, 56, 57, 58, 59, 78, 79, 80, 81, 82, 83, 84, 85, 86, 87, 88, 89, 90, 91, 92, 105, 106, 107] (by decide +kernel) (by decide +kernel)
set_option maxRecDepth 20000 in
theorem gX6_takePromised_X3_beginAccepting_n240 : GoodIn wsX6_takePromised (wsX3_beginAccepting) := ggX6_takePromised_X3_beginAccepting
set_option maxRecDepth 20000 in
theorem ggX6_takePromised_X6_sendToSet : GoodIn wsX6_takePromised wsX6_sendToSet := goodIn_r _ [63, 64, 65, 66, 67, 68, 69, 70, 93, 94, 95, 96, 97, 98, 99, 78, 79, 80, 81, 82, 83, 84, 85, 86, 87, 88, 89, 90, 91, 92, 108, 109, 71, 72, 73, 74, 75, 76, 77] (by decide +kernel) (by decide +kernel)
set_option maxRecDepth 20000 in
theorem gX6_takePromised_X6_sendToSet : GoodIn wsX6_takePromised (wsV RX6 79 RX6 yX6_sendToSet wsX6_sendToSet) := goodIn_app (goodIn_of _ (by decide +kernel)) ggX6_takePromised_X6_sendToSet
theorem dX6_takePromised_0 : decode cX6_takePromised 0 = .ok (.aload_n 0, 1) := by decide +kernel
theorem dX6_takePromised_1 : decode cX6_takePromised 1 = .ok (.aload_n 1, 1) := by decide +kernel
theorem dX6_takePromised_2 : decode cX6_takePromised 2 = .ok (.iconst 0, 1) := by decide +kernel
theorem dX6_takePromised_3 : decode cX6_takePromised 3 = .ok (.invokevirtual 227, 3) := by decide +kernel
theorem dX6_takePromised_6 : decode cX6_takePromised 6 = .ok (.astore_n 2, 1) := by decide +kernel
theorem dX6_takePromised_7 : decode cX6_takePromised 7 = .ok (.aload_n 2, 1) := by decide +kernel
theorem dX6_takePromised_8 : decode cX6_takePromised 8 = .ok (.ifnonnull 4, 3) := by decide +kernel
theorem dX6_takePromised_11 : decode cX6_takePromised 11 = .ok (.return_, 1) := by decide +kernel
theorem dX6_takePromised_12 : decode cX6_takePromised 12 = .ok (.aload_n 2, 1) := by decide +kernel
theorem dX6_takePromised_13 : decode cX6_takePromised 13 = .ok (.aload_n 1, 1) := by decide +kernel
theorem dX6_takePromised_14 : decode cX6_takePromised 14 = .ok (.getfield 130, 3) := by decide +kernel
theorem dX6_takePromised_17 : decode cX6_takePromised 17 = .ok (.aload_n 1, 1) := by decide +kernel
theorem dX6_takePromised_18 : decode cX6_takePromised 18 = .ok (.getfield 133, 3) := by decide +kernel
theorem dX6_takePromised_21 : decode cX6_takePromised 21 = .ok (.invokevirtual 231, 3) := by decide +kernel
theorem dX6_takePromised_24 : decode cX6_takePromised 24 = .ok (.aload_n 2, 1) := by decide +kernel
theorem dX6_takePromised_25 : decode cX6_takePromised 25 = .ok (.aload_n 1, 1) := by decide +kernel
theorem dX6_takePromised_26 : decode cX6_takePromised 26 = .ok (.getfield 121, 3) := by decide +kernel
theorem dX6_takePromised_29 : decode cX6_takePromised 29 = .ok (.invokevirtual 234, 3) := by decide +kernel
theorem dX6_takePromised_32 : decode cX6_takePromised 32 = .ok (.aload_n 2, 1) := by decide +kernel
theorem dX6_takePromised_33 : decode cX6_takePromised 33 = .ok (.invokevirtual 174, 3) := by decide +kernel
theorem dX6_takePromised_36 : decode cX6_takePromised 36 = .ok (.aload_n 2, 1) := by decide +kernel
theorem dX6_takePromised_37 : decode cX6_takePromised 37 = .ok (.getfield 237, 3) := by decide +kernel
theorem dX6_takePromised_40 : decode cX6_takePromised 40 = .ok (.if_icmp .lt 21, 3) := by decide +kernel
theorem dX6_takePromised_43 : decode cX6_takePromised 43 = .ok (.aload_n 2, 1) := by decide +kernel
theorem dX6_takePromised_44 : decode cX6_takePromised 44 = .ok (.invokevirtual 240, 3) := by decide +kernel
theorem dX6_takePromised_47 : decode cX6_takePromised 47 = .ok (.aload_n 0, 1) := by decide +kernel
theorem dX6_takePromised_48 : decode cX6_takePromised 48 = .ok (.iconst 2, 1) := by decide +kernel
theorem dX6_takePromised_49 : decode cX6_takePromised 49 = .ok (.aload_n 2, 1) := by decide +kernel
theorem dX6_takePromised_50 : decode cX6_takePromised 50 = .ok (.aload_n 2, 1) := by decide +kernel
theorem dX6_takePromised_51 : decode cX6_takePromised 51 = .ok (.getfield 243, 3) := by decide +kernel
theorem dX6_takePromised_54 : decode cX6_takePromised 54 = .ok (.aload_n 2, 1) := by decide +kernel
theorem dX6_takePromised_55 : decode cX6_takePromised 55 = .ok (.getfield 189, 3) := by decide +kernel
theorem dX6_takePromised_58 : decode cX6_takePromised 58 = .ok (.invokevirtual 79, 3) := by decide +kernel
theorem dX6_takePromised_61 : decode cX6_takePromised 61 = .ok (.return_, 1) := by decide +kernel
set_option maxRecDepth 20000 in
theorem ggX6_takeTaken_X6_awaiting : GoodIn wsX6_takeTaken wsX6_awaiting := goodIn_r _ [6, 1, 7, 8, 9, 10, 11, 50, 51, 52, 53, 54, 55, 56, 28, 29, 30, 31, 32, 33, 34, 57, 58, 59, 60, 61, 35, 36, 37, 38, 39, 40, 41, 42, 43, 44, 45, 46, 47, 48, 49] (by decide +kernel) (by decide +kernel)
set_option maxRecDepth 20000 in
theorem gX6_takeTaken_X6_awaiting : GoodIn wsX6_takeTaken (wsV RX6 227 RX6 yX6_awaiting wsX6_awaiting) := goodIn_app (goodIn_of _ (by decide +kernel)) ggX6_takeTaken_X6_awaiting
set_option maxRecDepth 20000 in
theorem ggX6_takeTaken_X3_countAnswer : GoodIn wsX6_takeTaken wsX3_countAnswer := goodIn_r _ [14, 11, 35, 36, 37, 38, 39, 40, 41, 42, 43, 44, 45, 46, 47, 48, 49] (by decide +kernel) (by decide +kernel)
set_option maxRecDepth 20000 in
theorem gX6_takeTaken_X3_countAnswer_n234 : GoodIn wsX6_takeTaken (wsX3_countAnswer) := ggX6_takeTaken_X3_countAnswer
set_option maxRecDepth 20000 in
theorem ggX6_takeTaken_X3_answers : GoodIn wsX6_takeTaken wsX3_answers := goodIn_r _ [17, 11, 18, 19, 20, 21, 22, 23, 24, 35, 36, 37, 38, 39, 40, 41, 42, 43, 44, 45, 46, 47, 48, 49] (by decide +kernel) (by decide +kernel)
set_option maxRecDepth 20000 in
theorem gX6_takeTaken_X3_answers_n174 : GoodIn wsX6_takeTaken (wsX3_answers) := ggX6_takeTaken_X3_answers
set_option maxRecDepth 20000 in
theorem ggX6_takeTaken_X6_endCurrent : GoodIn wsX6_takeTaken wsX6_endCurrent := goodIn_r _ [27, 57, 58, 59, 60, 61, 35, 36, 37, 38, 39, 40, 41, 42, 43, 44, 45, 46, 47, 48, 49] (by decide +kernel) (by decide +kernel)
set_option maxRecDepth 20000 in
theorem gX6_takeTaken_X6_endCurrent : GoodIn wsX6_takeTaken (va_wsS RX6 86 yX6_endCurrent wsX6_endCurrent) := goodIn_app (goodIn_of _ (by decide +kernel)) ggX6_takeTaken_X6_endCurrent
theorem dX6_takeTaken_0 : decode cX6_takeTaken 0 = .ok (.aload_n 0, 1) := by decide +kernel
theorem dX6_takeTaken_1 : decode cX6_takeTaken 1 = .ok (.aload_n 1, 1) := by decide +kernel
theorem dX6_takeTaken_2 : decode cX6_takeTaken 2 = .ok (.iconst 1, 1) := by decide +kernel
theorem dX6_takeTaken_3 : decode cX6_takeTaken 3 = .ok (.invokevirtual 227, 3) := by decide +kernel
theorem dX6_takeTaken_6 : decode cX6_takeTaken 6 = .ok (.astore_n 2, 1) := by decide +kernel
theorem dX6_takeTaken_7 : decode cX6_takeTaken 7 = .ok (.aload_n 2, 1) := by decide +kernel
theorem dX6_takeTaken_8 : decode cX6_takeTaken 8 = .ok (.ifnonnull 4, 3) := by decide +kernel
theorem dX6_takeTaken_11 : decode cX6_takeTaken 11 = .ok (.return_, 1) := by decide +kernel
theorem dX6_takeTaken_12 : decode cX6_takeTaken 12 = .ok (.aload_n 2, 1) := by decide +kernel
theorem dX6_takeTaken_13 : decode cX6_takeTaken 13 = .ok (.aload_n 1, 1) := by decide +kernel
theorem dX6_takeTaken_14 : decode cX6_takeTaken 14 = .ok (.getfield 121, 3) := by decide +kernel
theorem dX6_takeTaken_17 : decode cX6_takeTaken 17 = .ok (.invokevirtual 234, 3) := by decide +kernel
theorem dX6_takeTaken_20 : decode cX6_takeTaken 20 = .ok (.aload_n 2, 1) := by decide +kernel
theorem dX6_takeTaken_21 : decode cX6_takeTaken 21 = .ok (.invokevirtual 174, 3) := by decide +kernel
theorem dX6_takeTaken_24 : decode cX6_takeTaken 24 = .ok (.aload_n 2, 1) := by decide +kernel
theorem dX6_takeTaken_25 : decode cX6_takeTaken 25 = .ok (.getfield 246, 3) := by decide +kernel
theorem dX6_takeTaken_28 : decode cX6_takeTaken 28 = .ok (.if_icmp .lt 17, 3) := by decide +kernel
theorem dX6_takeTaken_31 : decode cX6_takeTaken 31 = .ok (.aload_n 0, 1) := by decide +kernel
theorem dX6_takeTaken_32 : decode cX6_takeTaken 32 = .ok (.getfield 33, 3) := by decide +kernel
theorem dX6_takeTaken_35 : decode cX6_takeTaken 35 = .ok (.aload_n 1, 1) := by decide +kernel
theorem dX6_takeTaken_36 : decode cX6_takeTaken 36 = .ok (.getfield 118, 3) := by decide +kernel
theorem dX6_takeTaken_39 : decode cX6_takeTaken 39 = .ok (.aaload, 1) := by decide +kernel
theorem dX6_takeTaken_40 : decode cX6_takeTaken 40 = .ok (.iconst 1, 1) := by decide +kernel
theorem dX6_takeTaken_41 : decode cX6_takeTaken 41 = .ok (.invokestatic 86, 3) := by decide +kernel
theorem dX6_takeTaken_44 : decode cX6_takeTaken 44 = .ok (.pop, 1) := by decide +kernel
theorem dX6_takeTaken_45 : decode cX6_takeTaken 45 = .ok (.return_, 1) := by decide +kernel
set_option maxRecDepth 20000 in
theorem ggX6_takeRefused_X6_endCurrent : GoodIn wsX6_takeRefused wsX6_endCurrent := goodIn_r _ [9, 24, 25, 26, 27, 28, 29, 30, 31, 32, 33, 34, 35, 36, 37, 38, 39, 40, 41, 42, 43] (by decide +kernel) (by decide +kernel)
set_option maxRecDepth 20000 in
theorem gX6_takeRefused_X6_endCurrent : GoodIn wsX6_takeRefused (va_wsS RX6 86 yX6_endCurrent wsX6_endCurrent) := goodIn_app (goodIn_of _ (by decide +kernel)) ggX6_takeRefused_X6_endCurrent
theorem dX6_takeRefused_0 : decode cX6_takeRefused 0 = .ok (.aload_n 0, 1) := by decide +kernel
theorem dX6_takeRefused_1 : decode cX6_takeRefused 1 = .ok (.getfield 33, 3) := by decide +kernel
theorem dX6_takeRefused_4 : decode cX6_takeRefused 4 = .ok (.aload_n 1, 1) := by decide +kernel
theorem dX6_takeRefused_5 : decode cX6_takeRefused 5 = .ok (.getfield 118, 3) := by decide +kernel
theorem dX6_takeRefused_8 : decode cX6_takeRefused 8 = .ok (.aaload, 1) := by decide +kernel
theorem dX6_takeRefused_9 : decode cX6_takeRefused 9 = .ok (.astore_n 2, 1) := by decide +kernel
theorem dX6_takeRefused_10 : decode cX6_takeRefused 10 = .ok (.aload_n 2, 1) := by decide +kernel
theorem dX6_takeRefused_11 : decode cX6_takeRefused 11 = .ok (.aload_n 2, 1) := by decide +kernel
theorem dX6_takeRefused_12 : decode cX6_takeRefused 12 = .ok (.getfield 69, 3) := by decide +kernel
theorem dX6_takeRefused_15 : decode cX6_takeRefused 15 = .ok (.aload_n 1, 1) := by decide +kernel
theorem dX6_takeRefused_16 : decode cX6_takeRefused 16 = .ok (.getfield 130, 3) := by decide +kernel
theorem dX6_takeRefused_19 : decode cX6_takeRefused 19 = .ok (.iconst 4, 1) := by decide +kernel
theorem dX6_takeRefused_20 : decode cX6_takeRefused 20 = .ok (.idiv, 1) := by decide +kernel
theorem dX6_takeRefused_21 : decode cX6_takeRefused 21 = .ok (.invokestatic 249, 3) := by decide +kernel
theorem dX6_takeRefused_24 : decode cX6_takeRefused 24 = .ok (.putfield 69, 3) := by decide +kernel
theorem dX6_takeRefused_27 : decode cX6_takeRefused 27 = .ok (.aload_n 2, 1) := by decide +kernel
theorem dX6_takeRefused_28 : decode cX6_takeRefused 28 = .ok (.getfield 65, 3) := by decide +kernel
theorem dX6_takeRefused_31 : decode cX6_takeRefused 31 = .ok (.ifnull 23, 3) := by decide +kernel
theorem dX6_takeRefused_34 : decode cX6_takeRefused 34 = .ok (.aload_n 2, 1) := by decide +kernel
theorem dX6_takeRefused_35 : decode cX6_takeRefused 35 = .ok (.getfield 65, 3) := by decide +kernel
theorem dX6_takeRefused_38 : decode cX6_takeRefused 38 = .ok (.getfield 83, 3) := by decide +kernel
theorem dX6_takeRefused_41 : decode cX6_takeRefused 41 = .ok (.aload_n 1, 1) := by decide +kernel
theorem dX6_takeRefused_42 : decode cX6_takeRefused 42 = .ok (.getfield 124, 3) := by decide +kernel
theorem dX6_takeRefused_45 : decode cX6_takeRefused 45 = .ok (.if_icmp .ne 9, 3) := by decide +kernel
theorem dX6_takeRefused_48 : decode cX6_takeRefused 48 = .ok (.aload_n 2, 1) := by decide +kernel
theorem dX6_takeRefused_49 : decode cX6_takeRefused 49 = .ok (.iconst 2, 1) := by decide +kernel
theorem dX6_takeRefused_50 : decode cX6_takeRefused 50 = .ok (.invokestatic 86, 3) := by decide +kernel
theorem dX6_takeRefused_53 : decode cX6_takeRefused 53 = .ok (.pop, 1) := by decide +kernel
theorem dX6_takeRefused_54 : decode cX6_takeRefused 54 = .ok (.return_, 1) := by decide +kernel
set_option maxRecDepth 20000 in
theorem ggX6_awaiting_X3_hasAnswer : GoodIn wsX6_awaiting wsX3_hasAnswer := goodIn_r _ [5, 6, 26, 27, 28, 29, 30, 31, 32, 33, 34, 35, 36, 37, 38, 39, 40] (by decide +kernel) (by decide +kernel)
set_option maxRecDepth 20000 in
theorem gX6_awaiting_X3_hasAnswer_n255 : GoodIn wsX6_awaiting (wsX3_hasAnswer) := ggX6_awaiting_X3_hasAnswer
theorem dX6_awaiting_0 : decode cX6_awaiting 0 = .ok (.aload_n 0, 1) := by decide +kernel
theorem dX6_awaiting_1 : decode cX6_awaiting 1 = .ok (.getfield 33, 3) := by decide +kernel
theorem dX6_awaiting_4 : decode cX6_awaiting 4 = .ok (.aload_n 1, 1) := by decide +kernel
theorem dX6_awaiting_5 : decode cX6_awaiting 5 = .ok (.getfield 118, 3) := by decide +kernel
theorem dX6_awaiting_8 : decode cX6_awaiting 8 = .ok (.aaload, 1) := by decide +kernel
theorem dX6_awaiting_9 : decode cX6_awaiting 9 = .ok (.getfield 65, 3) := by decide +kernel
theorem dX6_awaiting_12 : decode cX6_awaiting 12 = .ok (.astore_n 3, 1) := by decide +kernel
theorem dX6_awaiting_13 : decode cX6_awaiting 13 = .ok (.aload_n 3, 1) := by decide +kernel
theorem dX6_awaiting_14 : decode cX6_awaiting 14 = .ok (.ifnull 14, 3) := by decide +kernel
theorem dX6_awaiting_17 : decode cX6_awaiting 17 = .ok (.aload_n 3, 1) := by decide +kernel
theorem dX6_awaiting_18 : decode cX6_awaiting 18 = .ok (.getfield 83, 3) := by decide +kernel
theorem dX6_awaiting_21 : decode cX6_awaiting 21 = .ok (.aload_n 1, 1) := by decide +kernel
theorem dX6_awaiting_22 : decode cX6_awaiting 22 = .ok (.getfield 124, 3) := by decide +kernel
theorem dX6_awaiting_25 : decode cX6_awaiting 25 = .ok (.if_icmp .eq 5, 3) := by decide +kernel
theorem dX6_awaiting_28 : decode cX6_awaiting 28 = .ok (.aconst_null, 1) := by decide +kernel
theorem dX6_awaiting_29 : decode cX6_awaiting 29 = .ok (.areturn, 1) := by decide +kernel
theorem dX6_awaiting_30 : decode cX6_awaiting 30 = .ok (.aload_n 3, 1) := by decide +kernel
theorem dX6_awaiting_31 : decode cX6_awaiting 31 = .ok (.getfield 170, 3) := by decide +kernel
theorem dX6_awaiting_34 : decode cX6_awaiting 34 = .ok (.iload_n 2, 1) := by decide +kernel
theorem dX6_awaiting_35 : decode cX6_awaiting 35 = .ok (.if_icmp .ne 14, 3) := by decide +kernel
theorem dX6_awaiting_38 : decode cX6_awaiting 38 = .ok (.aload_n 3, 1) := by decide +kernel
theorem dX6_awaiting_39 : decode cX6_awaiting 39 = .ok (.aload_n 1, 1) := by decide +kernel
theorem dX6_awaiting_40 : decode cX6_awaiting 40 = .ok (.getfield 121, 3) := by decide +kernel
theorem dX6_awaiting_43 : decode cX6_awaiting 43 = .ok (.invokevirtual 255, 3) := by decide +kernel
theorem dX6_awaiting_46 : decode cX6_awaiting 46 = .ok (.ifCond .eq 5, 3) := by decide +kernel
theorem dX6_awaiting_49 : decode cX6_awaiting 49 = .ok (.aconst_null, 1) := by decide +kernel
theorem dX6_awaiting_50 : decode cX6_awaiting 50 = .ok (.areturn, 1) := by decide +kernel
theorem dX6_awaiting_51 : decode cX6_awaiting 51 = .ok (.aload_n 3, 1) := by decide +kernel
theorem dX6_awaiting_52 : decode cX6_awaiting 52 = .ok (.areturn, 1) := by decide +kernel
theorem dX6_endCurrent_0 : decode cX6_endCurrent 0 = .ok (.aload_n 0, 1) := by decide +kernel
theorem dX6_endCurrent_1 : decode cX6_endCurrent 1 = .ok (.getfield 65, 3) := by decide +kernel
theorem dX6_endCurrent_4 : decode cX6_endCurrent 4 = .ok (.astore_n 2, 1) := by decide +kernel
theorem dX6_endCurrent_5 : decode cX6_endCurrent 5 = .ok (.aload_n 2, 1) := by decide +kernel
theorem dX6_endCurrent_6 : decode cX6_endCurrent 6 = .ok (.ifnonnull 5, 3) := by decide +kernel
theorem dX6_endCurrent_9 : decode cX6_endCurrent 9 = .ok (.iconst (-1), 1) := by decide +kernel
theorem dX6_endCurrent_10 : decode cX6_endCurrent 10 = .ok (.ireturn, 1) := by decide +kernel
theorem dX6_endCurrent_11 : decode cX6_endCurrent 11 = .ok (.aload_n 2, 1) := by decide +kernel
theorem dX6_endCurrent_12 : decode cX6_endCurrent 12 = .ok (.iload_n 1, 1) := by decide +kernel
theorem dX6_endCurrent_13 : decode cX6_endCurrent 13 = .ok (.putfield 183, 3) := by decide +kernel
theorem dX6_endCurrent_16 : decode cX6_endCurrent 16 = .ok (.aload_n 0, 1) := by decide +kernel
theorem dX6_endCurrent_17 : decode cX6_endCurrent 17 = .ok (.aconst_null, 1) := by decide +kernel
theorem dX6_endCurrent_18 : decode cX6_endCurrent 18 = .ok (.putfield 65, 3) := by decide +kernel
theorem dX6_endCurrent_21 : decode cX6_endCurrent 21 = .ok (.aload_n 2, 1) := by decide +kernel
theorem dX6_endCurrent_22 : decode cX6_endCurrent 22 = .ok (.getfield 83, 3) := by decide +kernel
theorem dX6_endCurrent_25 : decode cX6_endCurrent 25 = .ok (.ireturn, 1) := by decide +kernel
set_option maxRecDepth 20000 in
theorem ggX6_sendToSet_X4_send : GoodIn wsX6_sendToSet wsX4_send := goodIn_r _ [5, 6, 7, 30, 31, 32, 33, 34, 35, 36, 37, 38] (by decide +kernel) (by decide +kernel)
set_option maxRecDepth 20000 in
theorem gX6_sendToSet_X4_send_n136 : GoodIn wsX6_sendToSet (wsX4_send) := ggX6_sendToSet_X4_send
theorem dX6_sendToSet_0 : decode cX6_sendToSet 0 = .ok (.iconst 0, 1) := by decide +kernel
theorem dX6_sendToSet_1 : decode cX6_sendToSet 1 = .ok (.istore 5, 2) := by decide +kernel
theorem dX6_sendToSet_3 : decode cX6_sendToSet 3 = .ok (.iload 5, 2) := by decide +kernel
theorem dX6_sendToSet_5 : decode cX6_sendToSet 5 = .ok (.bipush 9, 2) := by decide +kernel
theorem dX6_sendToSet_7 : decode cX6_sendToSet 7 = .ok (.if_icmp .ge 46, 3) := by decide +kernel
theorem dX6_sendToSet_10 : decode cX6_sendToSet 10 = .ok (.iload_n 3, 1) := by decide +kernel
theorem dX6_sendToSet_11 : decode cX6_sendToSet 11 = .ok (.iconst 1, 1) := by decide +kernel
theorem dX6_sendToSet_12 : decode cX6_sendToSet 12 = .ok (.iload 5, 2) := by decide +kernel
theorem dX6_sendToSet_14 : decode cX6_sendToSet 14 = .ok (.ishl, 1) := by decide +kernel
theorem dX6_sendToSet_15 : decode cX6_sendToSet 15 = .ok (.iand, 1) := by decide +kernel
theorem dX6_sendToSet_16 : decode cX6_sendToSet 16 = .ok (.ifCond .eq 31, 3) := by decide +kernel
theorem dX6_sendToSet_19 : decode cX6_sendToSet 19 = .ok (.aload_n 0, 1) := by decide +kernel
theorem dX6_sendToSet_20 : decode cX6_sendToSet 20 = .ok (.getfield 49, 3) := by decide +kernel
theorem dX6_sendToSet_23 : decode cX6_sendToSet 23 = .ok (.iload_n 1, 1) := by decide +kernel
theorem dX6_sendToSet_24 : decode cX6_sendToSet 24 = .ok (.aload_n 2, 1) := by decide +kernel
theorem dX6_sendToSet_25 : decode cX6_sendToSet 25 = .ok (.getfield 259, 3) := by decide +kernel
theorem dX6_sendToSet_28 : decode cX6_sendToSet 28 = .ok (.iload 5, 2) := by decide +kernel
theorem dX6_sendToSet_30 : decode cX6_sendToSet 30 = .ok (.aload_n 2, 1) := by decide +kernel
theorem dX6_sendToSet_31 : decode cX6_sendToSet 31 = .ok (.getfield 83, 3) := by decide +kernel
theorem dX6_sendToSet_34 : decode cX6_sendToSet 34 = .ok (.aload_n 2, 1) := by decide +kernel
theorem dX6_sendToSet_35 : decode cX6_sendToSet 35 = .ok (.getfield 260, 3) := by decide +kernel
theorem dX6_sendToSet_38 : decode cX6_sendToSet 38 = .ok (.aload_n 2, 1) := by decide +kernel
theorem dX6_sendToSet_39 : decode cX6_sendToSet 39 = .ok (.getfield 190, 3) := by decide +kernel
theorem dX6_sendToSet_42 : decode cX6_sendToSet 42 = .ok (.aload 4, 2) := by decide +kernel
theorem dX6_sendToSet_44 : decode cX6_sendToSet 44 = .ok (.invokevirtual 136, 3) := by decide +kernel
theorem dX6_sendToSet_47 : decode cX6_sendToSet 47 = .ok (.iinc 5 1, 3) := by decide +kernel
theorem dX6_sendToSet_50 : decode cX6_sendToSet 50 = .ok (.goto (-47), 3) := by decide +kernel
theorem dX6_sendToSet_53 : decode cX6_sendToSet 53 = .ok (.return_, 1) := by decide +kernel
set_option maxRecDepth 20000 in
theorem ggX6_sendBack_X4_send : GoodIn wsX6_sendBack wsX4_send := goodIn_r _ [5, 6, 7, 22, 23, 15, 16, 17, 18, 19, 20, 21] (by decide +kernel) (by decide +kernel)
set_option maxRecDepth 20000 in
theorem gX6_sendBack_X4_send_n136 : GoodIn wsX6_sendBack (wsX4_send) := ggX6_sendBack_X4_send
theorem dX6_sendBack_0 : decode cX6_sendBack 0 = .ok (.aload_n 0, 1) := by decide +kernel
theorem dX6_sendBack_1 : decode cX6_sendBack 1 = .ok (.getfield 49, 3) := by decide +kernel
theorem dX6_sendBack_4 : decode cX6_sendBack 4 = .ok (.iload_n 1, 1) := by decide +kernel
theorem dX6_sendBack_5 : decode cX6_sendBack 5 = .ok (.aload_n 2, 1) := by decide +kernel
theorem dX6_sendBack_6 : decode cX6_sendBack 6 = .ok (.getfield 118, 3) := by decide +kernel
theorem dX6_sendBack_9 : decode cX6_sendBack 9 = .ok (.aload_n 2, 1) := by decide +kernel
theorem dX6_sendBack_10 : decode cX6_sendBack 10 = .ok (.getfield 121, 3) := by decide +kernel
theorem dX6_sendBack_13 : decode cX6_sendBack 13 = .ok (.aload_n 2, 1) := by decide +kernel
theorem dX6_sendBack_14 : decode cX6_sendBack 14 = .ok (.getfield 124, 3) := by decide +kernel
theorem dX6_sendBack_17 : decode cX6_sendBack 17 = .ok (.aload_n 2, 1) := by decide +kernel
theorem dX6_sendBack_18 : decode cX6_sendBack 18 = .ok (.getfield 127, 3) := by decide +kernel
theorem dX6_sendBack_21 : decode cX6_sendBack 21 = .ok (.iload_n 3, 1) := by decide +kernel
theorem dX6_sendBack_22 : decode cX6_sendBack 22 = .ok (.aload 4, 2) := by decide +kernel
theorem dX6_sendBack_24 : decode cX6_sendBack 24 = .ok (.invokevirtual 136, 3) := by decide +kernel
theorem dX6_sendBack_27 : decode cX6_sendBack 27 = .ok (.return_, 1) := by decide +kernel
theorem dX7_init_0 : decode cX7_init 0 = .ok (.aload_n 0, 1) := by decide +kernel
theorem dX7_init_1 : decode cX7_init 1 = .ok (.invokespecial 1, 3) := by decide +kernel
theorem dX7_init_4 : decode cX7_init 4 = .ok (.aload_n 0, 1) := by decide +kernel
theorem dX7_init_5 : decode cX7_init 5 = .ok (.sipush 301, 3) := by decide +kernel
theorem dX7_init_8 : decode cX7_init 8 = .ok (.newarray .int, 2) := by decide +kernel
theorem dX7_init_10 : decode cX7_init 10 = .ok (.putfield 7, 3) := by decide +kernel
theorem dX7_init_13 : decode cX7_init 13 = .ok (.aload_n 0, 1) := by decide +kernel
theorem dX7_init_14 : decode cX7_init 14 = .ok (.sipush 301, 3) := by decide +kernel
theorem dX7_init_17 : decode cX7_init 17 = .ok (.newarray .int, 2) := by decide +kernel
theorem dX7_init_19 : decode cX7_init 19 = .ok (.putfield 13, 3) := by decide +kernel
theorem dX7_init_22 : decode cX7_init 22 = .ok (.aload_n 0, 1) := by decide +kernel
theorem dX7_init_23 : decode cX7_init 23 = .ok (.sipush 301, 3) := by decide +kernel
theorem dX7_init_26 : decode cX7_init 26 = .ok (.newarray .int, 2) := by decide +kernel
theorem dX7_init_28 : decode cX7_init 28 = .ok (.putfield 16, 3) := by decide +kernel
theorem dX7_init_31 : decode cX7_init 31 = .ok (.aload_n 0, 1) := by decide +kernel
theorem dX7_init_32 : decode cX7_init 32 = .ok (.sipush 301, 3) := by decide +kernel
theorem dX7_init_35 : decode cX7_init 35 = .ok (.newarray .int, 2) := by decide +kernel
theorem dX7_init_37 : decode cX7_init 37 = .ok (.putfield 19, 3) := by decide +kernel
theorem dX7_init_40 : decode cX7_init 40 = .ok (.aload_n 0, 1) := by decide +kernel
theorem dX7_init_41 : decode cX7_init 41 = .ok (.sipush 301, 3) := by decide +kernel
theorem dX7_init_44 : decode cX7_init 44 = .ok (.newarray .int, 2) := by decide +kernel
theorem dX7_init_46 : decode cX7_init 46 = .ok (.putfield 22, 3) := by decide +kernel
theorem dX7_init_49 : decode cX7_init 49 = .ok (.aload_n 0, 1) := by decide +kernel
theorem dX7_init_50 : decode cX7_init 50 = .ok (.sipush 301, 3) := by decide +kernel
theorem dX7_init_53 : decode cX7_init 53 = .ok (.newarray .boolean, 2) := by decide +kernel
theorem dX7_init_55 : decode cX7_init 55 = .ok (.putfield 25, 3) := by decide +kernel
theorem dX7_init_58 : decode cX7_init 58 = .ok (.aload_n 0, 1) := by decide +kernel
theorem dX7_init_59 : decode cX7_init 59 = .ok (.sipush 301, 3) := by decide +kernel
theorem dX7_init_62 : decode cX7_init 62 = .ok (.newarray .int, 2) := by decide +kernel
theorem dX7_init_64 : decode cX7_init 64 = .ok (.putfield 29, 3) := by decide +kernel
theorem dX7_init_67 : decode cX7_init 67 = .ok (.aload_n 0, 1) := by decide +kernel
theorem dX7_init_68 : decode cX7_init 68 = .ok (.sipush 301, 3) := by decide +kernel
theorem dX7_init_71 : decode cX7_init 71 = .ok (.newarray .long, 2) := by decide +kernel
theorem dX7_init_73 : decode cX7_init 73 = .ok (.putfield 32, 3) := by decide +kernel
theorem dX7_init_76 : decode cX7_init 76 = .ok (.aload_n 0, 1) := by decide +kernel
theorem dX7_init_77 : decode cX7_init 77 = .ok (.bipush 9, 2) := by decide +kernel
theorem dX7_init_79 : decode cX7_init 79 = .ok (.newarray .boolean, 2) := by decide +kernel
theorem dX7_init_81 : decode cX7_init 81 = .ok (.putfield 36, 3) := by decide +kernel
theorem dX7_init_84 : decode cX7_init 84 = .ok (.aload_n 0, 1) := by decide +kernel
theorem dX7_init_85 : decode cX7_init 85 = .ok (.bipush 36, 2) := by decide +kernel
theorem dX7_init_87 : decode cX7_init 87 = .ok (.newarray .int, 2) := by decide +kernel
theorem dX7_init_89 : decode cX7_init 89 = .ok (.putfield 39, 3) := by decide +kernel
theorem dX7_init_92 : decode cX7_init 92 = .ok (.aload_n 0, 1) := by decide +kernel
theorem dX7_init_93 : decode cX7_init 93 = .ok (.bipush 36, 2) := by decide +kernel
theorem dX7_init_95 : decode cX7_init 95 = .ok (.newarray .int, 2) := by decide +kernel
theorem dX7_init_97 : decode cX7_init 97 = .ok (.putfield 42, 3) := by decide +kernel
theorem dX7_init_100 : decode cX7_init 100 = .ok (.aload_n 0, 1) := by decide +kernel
theorem dX7_init_101 : decode cX7_init 101 = .ok (.bipush 36, 2) := by decide +kernel
theorem dX7_init_103 : decode cX7_init 103 = .ok (.newarray .boolean, 2) := by decide +kernel
theorem dX7_init_105 : decode cX7_init 105 = .ok (.putfield 45, 3) := by decide +kernel
theorem dX7_init_108 : decode cX7_init 108 = .ok (.aload_n 0, 1) := by decide +kernel
theorem dX7_init_109 : decode cX7_init 109 = .ok (.bipush 36, 2) := by decide +kernel
theorem dX7_init_111 : decode cX7_init 111 = .ok (.newarray .int, 2) := by decide +kernel
theorem dX7_init_113 : decode cX7_init 113 = .ok (.putfield 48, 3) := by decide +kernel
theorem dX7_init_116 : decode cX7_init 116 = .ok (.aload_n 0, 1) := by decide +kernel
theorem dX7_init_117 : decode cX7_init 117 = .ok (.bipush 36, 2) := by decide +kernel
theorem dX7_init_119 : decode cX7_init 119 = .ok (.newarray .long, 2) := by decide +kernel
theorem dX7_init_121 : decode cX7_init 121 = .ok (.putfield 51, 3) := by decide +kernel
theorem dX7_init_124 : decode cX7_init 124 = .ok (.aload_n 0, 1) := by decide +kernel
theorem dX7_init_125 : decode cX7_init 125 = .ok (.iconst 4, 1) := by decide +kernel
theorem dX7_init_126 : decode cX7_init 126 = .ok (.newarray .int, 2) := by decide +kernel
theorem dX7_init_128 : decode cX7_init 128 = .ok (.putfield 54, 3) := by decide +kernel
theorem dX7_init_131 : decode cX7_init 131 = .ok (.aload_n 0, 1) := by decide +kernel
theorem dX7_init_132 : decode cX7_init 132 = .ok (.bipush 8, 2) := by decide +kernel
theorem dX7_init_134 : decode cX7_init 134 = .ok (.newarray .int, 2) := by decide +kernel
theorem dX7_init_136 : decode cX7_init 136 = .ok (.putfield 57, 3) := by decide +kernel
theorem dX7_init_139 : decode cX7_init 139 = .ok (.aload_n 0, 1) := by decide +kernel
theorem dX7_init_140 : decode cX7_init 140 = .ok (.bipush 8, 2) := by decide +kernel
theorem dX7_init_142 : decode cX7_init 142 = .ok (.newarray .int, 2) := by decide +kernel
theorem dX7_init_144 : decode cX7_init 144 = .ok (.putfield 60, 3) := by decide +kernel
theorem dX7_init_147 : decode cX7_init 147 = .ok (.aload_n 0, 1) := by decide +kernel
theorem dX7_init_148 : decode cX7_init 148 = .ok (.bipush 8, 2) := by decide +kernel
theorem dX7_init_150 : decode cX7_init 150 = .ok (.newarray .int, 2) := by decide +kernel
theorem dX7_init_152 : decode cX7_init 152 = .ok (.putfield 63, 3) := by decide +kernel
theorem dX7_init_155 : decode cX7_init 155 = .ok (.aload_n 0, 1) := by decide +kernel
theorem dX7_init_156 : decode cX7_init 156 = .ok (.bipush 8, 2) := by decide +kernel
theorem dX7_init_158 : decode cX7_init 158 = .ok (.newarray .int, 2) := by decide +kernel
theorem dX7_init_160 : decode cX7_init 160 = .ok (.putfield 66, 3) := by decide +kernel
theorem dX7_init_163 : decode cX7_init 163 = .ok (.aload_n 0, 1) := by decide +kernel
theorem dX7_init_164 : decode cX7_init 164 = .ok (.iconst 4, 1) := by decide +kernel
theorem dX7_init_165 : decode cX7_init 165 = .ok (.newarray .int, 2) := by decide +kernel
theorem dX7_init_167 : decode cX7_init 167 = .ok (.putfield 69, 3) := by decide +kernel
theorem dX7_init_170 : decode cX7_init 170 = .ok (.aload_n 0, 1) := by decide +kernel
theorem dX7_init_171 : decode cX7_init 171 = .ok (.iconst 4, 1) := by decide +kernel
theorem dX7_init_172 : decode cX7_init 172 = .ok (.newarray .boolean, 2) := by decide +kernel
theorem dX7_init_174 : decode cX7_init 174 = .ok (.putfield 72, 3) := by decide +kernel
theorem dX7_init_177 : decode cX7_init 177 = .ok (.aload_n 0, 1) := by decide +kernel
theorem dX7_init_178 : decode cX7_init 178 = .ok (.iconst 4, 1) := by decide +kernel
theorem dX7_init_179 : decode cX7_init 179 = .ok (.newarray .int, 2) := by decide +kernel
theorem dX7_init_181 : decode cX7_init 181 = .ok (.putfield 75, 3) := by decide +kernel
theorem dX7_init_184 : decode cX7_init 184 = .ok (.aload_n 0, 1) := by decide +kernel
theorem dX7_init_185 : decode cX7_init 185 = .ok (.iconst 4, 1) := by decide +kernel
theorem dX7_init_186 : decode cX7_init 186 = .ok (.newarray .int, 2) := by decide +kernel
theorem dX7_init_188 : decode cX7_init 188 = .ok (.putfield 78, 3) := by decide +kernel
theorem dX7_init_191 : decode cX7_init 191 = .ok (.aload_n 0, 1) := by decide +kernel
theorem dX7_init_192 : decode cX7_init 192 = .ok (.iconst 4, 1) := by decide +kernel
theorem dX7_init_193 : decode cX7_init 193 = .ok (.newarray .boolean, 2) := by decide +kernel
theorem dX7_init_195 : decode cX7_init 195 = .ok (.putfield 81, 3) := by decide +kernel
theorem dX7_init_198 : decode cX7_init 198 = .ok (.aload_n 0, 1) := by decide +kernel
theorem dX7_init_199 : decode cX7_init 199 = .ok (.iconst 4, 1) := by decide +kernel
theorem dX7_init_200 : decode cX7_init 200 = .ok (.newarray .int, 2) := by decide +kernel
theorem dX7_init_202 : decode cX7_init 202 = .ok (.putfield 84, 3) := by decide +kernel
theorem dX7_init_205 : decode cX7_init 205 = .ok (.aload_n 0, 1) := by decide +kernel
theorem dX7_init_206 : decode cX7_init 206 = .ok (.iconst 4, 1) := by decide +kernel
theorem dX7_init_207 : decode cX7_init 207 = .ok (.newarray .long, 2) := by decide +kernel
theorem dX7_init_209 : decode cX7_init 209 = .ok (.putfield 87, 3) := by decide +kernel
theorem dX7_init_212 : decode cX7_init 212 = .ok (.aload_n 0, 1) := by decide +kernel
theorem dX7_init_213 : decode cX7_init 213 = .ok (.iconst 4, 1) := by decide +kernel
theorem dX7_init_214 : decode cX7_init 214 = .ok (.newarray .boolean, 2) := by decide +kernel
theorem dX7_init_216 : decode cX7_init 216 = .ok (.putfield 90, 3) := by decide +kernel
theorem dX7_init_219 : decode cX7_init 219 = .ok (.aload_n 0, 1) := by decide +kernel
theorem dX7_init_220 : decode cX7_init 220 = .ok (.sipush 200, 3) := by decide +kernel
theorem dX7_init_223 : decode cX7_init 223 = .ok (.newarray .int, 2) := by decide +kernel
theorem dX7_init_225 : decode cX7_init 225 = .ok (.putfield 93, 3) := by decide +kernel
theorem dX7_init_228 : decode cX7_init 228 = .ok (.aload_n 0, 1) := by decide +kernel
theorem dX7_init_229 : decode cX7_init 229 = .ok (.sipush 200, 3) := by decide +kernel
theorem dX7_init_232 : decode cX7_init 232 = .ok (.newarray .int, 2) := by decide +kernel
theorem dX7_init_234 : decode cX7_init 234 = .ok (.putfield 96, 3) := by decide +kernel
theorem dX7_init_237 : decode cX7_init 237 = .ok (.aload_n 0, 1) := by decide +kernel
theorem dX7_init_238 : decode cX7_init 238 = .ok (.sipush 200, 3) := by decide +kernel
theorem dX7_init_241 : decode cX7_init 241 = .ok (.newarray .long, 2) := by decide +kernel
theorem dX7_init_243 : decode cX7_init 243 = .ok (.putfield 99, 3) := by decide +kernel
theorem dX7_init_246 : decode cX7_init 246 = .ok (.aload_n 0, 1) := by decide +kernel
theorem dX7_init_247 : decode cX7_init 247 = .ok (.sipush 200, 3) := by decide +kernel
theorem dX7_init_250 : decode cX7_init 250 = .ok (.newarray .int, 2) := by decide +kernel
theorem dX7_init_252 : decode cX7_init 252 = .ok (.putfield 102, 3) := by decide +kernel
theorem dX7_init_255 : decode cX7_init 255 = .ok (.aload_n 0, 1) := by decide +kernel
theorem dX7_init_256 : decode cX7_init 256 = .ok (.sipush 200, 3) := by decide +kernel
theorem dX7_init_259 : decode cX7_init 259 = .ok (.newarray .int, 2) := by decide +kernel
theorem dX7_init_261 : decode cX7_init 261 = .ok (.putfield 105, 3) := by decide +kernel
theorem dX7_init_264 : decode cX7_init 264 = .ok (.aload_n 0, 1) := by decide +kernel
theorem dX7_init_265 : decode cX7_init 265 = .ok (.sipush 200, 3) := by decide +kernel
theorem dX7_init_268 : decode cX7_init 268 = .ok (.newarray .boolean, 2) := by decide +kernel
theorem dX7_init_270 : decode cX7_init 270 = .ok (.putfield 108, 3) := by decide +kernel
theorem dX7_init_273 : decode cX7_init 273 = .ok (.aload_n 0, 1) := by decide +kernel
theorem dX7_init_274 : decode cX7_init 274 = .ok (.sipush 200, 3) := by decide +kernel
theorem dX7_init_277 : decode cX7_init 277 = .ok (.newarray .boolean, 2) := by decide +kernel
theorem dX7_init_279 : decode cX7_init 279 = .ok (.putfield 111, 3) := by decide +kernel
theorem dX7_init_282 : decode cX7_init 282 = .ok (.aload_n 0, 1) := by decide +kernel
theorem dX7_init_283 : decode cX7_init 283 = .ok (.sipush 200, 3) := by decide +kernel
theorem dX7_init_286 : decode cX7_init 286 = .ok (.newarray .int, 2) := by decide +kernel
theorem dX7_init_288 : decode cX7_init 288 = .ok (.putfield 114, 3) := by decide +kernel
theorem dX7_init_291 : decode cX7_init 291 = .ok (.aload_n 0, 1) := by decide +kernel
theorem dX7_init_292 : decode cX7_init 292 = .ok (.sipush 200, 3) := by decide +kernel
theorem dX7_init_295 : decode cX7_init 295 = .ok (.newarray .long, 2) := by decide +kernel
theorem dX7_init_297 : decode cX7_init 297 = .ok (.putfield 117, 3) := by decide +kernel
theorem dX7_init_300 : decode cX7_init 300 = .ok (.iconst 0, 1) := by decide +kernel
theorem dX7_init_301 : decode cX7_init 301 = .ok (.istore_n 1, 1) := by decide +kernel
theorem dX7_init_302 : decode cX7_init 302 = .ok (.iload_n 1, 1) := by decide +kernel
theorem dX7_init_303 : decode cX7_init 303 = .ok (.bipush 8, 2) := by decide +kernel
theorem dX7_init_305 : decode cX7_init 305 = .ok (.if_icmp .ge 24, 3) := by decide +kernel
theorem dX7_init_308 : decode cX7_init 308 = .ok (.aload_n 0, 1) := by decide +kernel
theorem dX7_init_309 : decode cX7_init 309 = .ok (.getfield 57, 3) := by decide +kernel
theorem dX7_init_312 : decode cX7_init 312 = .ok (.iload_n 1, 1) := by decide +kernel
theorem dX7_init_313 : decode cX7_init 313 = .ok (.bipush 7, 2) := by decide +kernel
theorem dX7_init_315 : decode cX7_init 315 = .ok (.iastore, 1) := by decide +kernel
theorem dX7_init_316 : decode cX7_init 316 = .ok (.aload_n 0, 1) := by decide +kernel
theorem dX7_init_317 : decode cX7_init 317 = .ok (.getfield 60, 3) := by decide +kernel
theorem dX7_init_320 : decode cX7_init 320 = .ok (.iload_n 1, 1) := by decide +kernel
theorem dX7_init_321 : decode cX7_init 321 = .ok (.iconst 2, 1) := by decide +kernel
theorem dX7_init_322 : decode cX7_init 322 = .ok (.iastore, 1) := by decide +kernel
theorem dX7_init_323 : decode cX7_init 323 = .ok (.iinc 1 1, 3) := by decide +kernel
theorem dX7_init_326 : decode cX7_init 326 = .ok (.goto (-24), 3) := by decide +kernel
theorem dX7_init_329 : decode cX7_init 329 = .ok (.iconst 0, 1) := by decide +kernel
theorem dX7_init_330 : decode cX7_init 330 = .ok (.istore_n 1, 1) := by decide +kernel
theorem dX7_init_331 : decode cX7_init 331 = .ok (.iload_n 1, 1) := by decide +kernel
theorem dX7_init_332 : decode cX7_init 332 = .ok (.iconst 4, 1) := by decide +kernel
theorem dX7_init_333 : decode cX7_init 333 = .ok (.if_icmp .ge 16, 3) := by decide +kernel
theorem dX7_init_336 : decode cX7_init 336 = .ok (.aload_n 0, 1) := by decide +kernel
theorem dX7_init_337 : decode cX7_init 337 = .ok (.getfield 69, 3) := by decide +kernel
theorem dX7_init_340 : decode cX7_init 340 = .ok (.iload_n 1, 1) := by decide +kernel
theorem dX7_init_341 : decode cX7_init 341 = .ok (.iconst (-1), 1) := by decide +kernel
theorem dX7_init_342 : decode cX7_init 342 = .ok (.iastore, 1) := by decide +kernel
theorem dX7_init_343 : decode cX7_init 343 = .ok (.iinc 1 1, 3) := by decide +kernel
theorem dX7_init_346 : decode cX7_init 346 = .ok (.goto (-15), 3) := by decide +kernel
theorem dX7_init_349 : decode cX7_init 349 = .ok (.return_, 1) := by decide +kernel
theorem dX7_thrown_0 : decode cX7_thrown 0 = .ok (.aload_n 0, 1) := by decide +kernel
theorem dX7_thrown_1 : decode cX7_thrown 1 = .ok (.getfield 120, 3) := by decide +kernel
theorem dX7_thrown_4 : decode cX7_thrown 4 = .ok (.ireturn, 1) := by decide +kernel
theorem dX7_send_0 : decode cX7_send 0 = .ok (.aload_n 0, 1) := by decide +kernel
theorem dX7_send_1 : decode cX7_send 1 = .ok (.getfield 124, 3) := by decide +kernel
theorem dX7_send_4 : decode cX7_send 4 = .ok (.sipush 300, 3) := by decide +kernel
theorem dX7_send_7 : decode cX7_send 7 = .ok (.if_icmp .ge 98, 3) := by decide +kernel
theorem dX7_send_10 : decode cX7_send 10 = .ok (.aload_n 0, 1) := by decide +kernel
theorem dX7_send_11 : decode cX7_send 11 = .ok (.getfield 7, 3) := by decide +kernel
theorem dX7_send_14 : decode cX7_send 14 = .ok (.aload_n 0, 1) := by decide +kernel
theorem dX7_send_15 : decode cX7_send 15 = .ok (.getfield 124, 3) := by decide +kernel
theorem dX7_send_18 : decode cX7_send 18 = .ok (.iload_n 1, 1) := by decide +kernel
theorem dX7_send_19 : decode cX7_send 19 = .ok (.iastore, 1) := by decide +kernel
theorem dX7_send_20 : decode cX7_send 20 = .ok (.aload_n 0, 1) := by decide +kernel
theorem dX7_send_21 : decode cX7_send 21 = .ok (.getfield 13, 3) := by decide +kernel
theorem dX7_send_24 : decode cX7_send 24 = .ok (.aload_n 0, 1) := by decide +kernel
theorem dX7_send_25 : decode cX7_send 25 = .ok (.getfield 124, 3) := by decide +kernel
theorem dX7_send_28 : decode cX7_send 28 = .ok (.iload_n 2, 1) := by decide +kernel
theorem dX7_send_29 : decode cX7_send 29 = .ok (.iastore, 1) := by decide +kernel
theorem dX7_send_30 : decode cX7_send 30 = .ok (.aload_n 0, 1) := by decide +kernel
theorem dX7_send_31 : decode cX7_send 31 = .ok (.getfield 16, 3) := by decide +kernel
theorem dX7_send_34 : decode cX7_send 34 = .ok (.aload_n 0, 1) := by decide +kernel
theorem dX7_send_35 : decode cX7_send 35 = .ok (.getfield 124, 3) := by decide +kernel
theorem dX7_send_38 : decode cX7_send 38 = .ok (.iload_n 3, 1) := by decide +kernel
theorem dX7_send_39 : decode cX7_send 39 = .ok (.iastore, 1) := by decide +kernel
theorem dX7_send_40 : decode cX7_send 40 = .ok (.aload_n 0, 1) := by decide +kernel
theorem dX7_send_41 : decode cX7_send 41 = .ok (.getfield 19, 3) := by decide +kernel
theorem dX7_send_44 : decode cX7_send 44 = .ok (.aload_n 0, 1) := by decide +kernel
theorem dX7_send_45 : decode cX7_send 45 = .ok (.getfield 124, 3) := by decide +kernel
theorem dX7_send_48 : decode cX7_send 48 = .ok (.iload 4, 2) := by decide +kernel
theorem dX7_send_50 : decode cX7_send 50 = .ok (.iastore, 1) := by decide +kernel
theorem dX7_send_51 : decode cX7_send 51 = .ok (.aload_n 0, 1) := by decide +kernel
theorem dX7_send_52 : decode cX7_send 52 = .ok (.getfield 22, 3) := by decide +kernel
theorem dX7_send_55 : decode cX7_send 55 = .ok (.aload_n 0, 1) := by decide +kernel
theorem dX7_send_56 : decode cX7_send 56 = .ok (.getfield 124, 3) := by decide +kernel
theorem dX7_send_59 : decode cX7_send 59 = .ok (.iload 5, 2) := by decide +kernel
theorem dX7_send_61 : decode cX7_send 61 = .ok (.iastore, 1) := by decide +kernel
theorem dX7_send_62 : decode cX7_send 62 = .ok (.aload_n 0, 1) := by decide +kernel
theorem dX7_send_63 : decode cX7_send 63 = .ok (.getfield 25, 3) := by decide +kernel
theorem dX7_send_66 : decode cX7_send 66 = .ok (.aload_n 0, 1) := by decide +kernel
theorem dX7_send_67 : decode cX7_send 67 = .ok (.getfield 124, 3) := by decide +kernel
theorem dX7_send_70 : decode cX7_send 70 = .ok (.iload 6, 2) := by decide +kernel
theorem dX7_send_72 : decode cX7_send 72 = .ok (.bastore, 1) := by decide +kernel
theorem dX7_send_73 : decode cX7_send 73 = .ok (.aload_n 0, 1) := by decide +kernel
theorem dX7_send_74 : decode cX7_send 74 = .ok (.getfield 29, 3) := by decide +kernel
theorem dX7_send_77 : decode cX7_send 77 = .ok (.aload_n 0, 1) := by decide +kernel
theorem dX7_send_78 : decode cX7_send 78 = .ok (.getfield 124, 3) := by decide +kernel
theorem dX7_send_81 : decode cX7_send 81 = .ok (.iload 7, 2) := by decide +kernel
theorem dX7_send_83 : decode cX7_send 83 = .ok (.iastore, 1) := by decide +kernel
theorem dX7_send_84 : decode cX7_send 84 = .ok (.aload_n 0, 1) := by decide +kernel
theorem dX7_send_85 : decode cX7_send 85 = .ok (.getfield 32, 3) := by decide +kernel
theorem dX7_send_88 : decode cX7_send 88 = .ok (.aload_n 0, 1) := by decide +kernel
theorem dX7_send_89 : decode cX7_send 89 = .ok (.getfield 124, 3) := by decide +kernel
theorem dX7_send_92 : decode cX7_send 92 = .ok (.lload 8, 2) := by decide +kernel
theorem dX7_send_94 : decode cX7_send 94 = .ok (.lastore, 1) := by decide +kernel
theorem dX7_send_95 : decode cX7_send 95 = .ok (.aload_n 0, 1) := by decide +kernel
theorem dX7_send_96 : decode cX7_send 96 = .ok (.dup, 1) := by decide +kernel
theorem dX7_send_97 : decode cX7_send 97 = .ok (.getfield 124, 3) := by decide +kernel
theorem dX7_send_100 : decode cX7_send 100 = .ok (.iconst 1, 1) := by decide +kernel
theorem dX7_send_101 : decode cX7_send 101 = .ok (.iadd, 1) := by decide +kernel
theorem dX7_send_102 : decode cX7_send 102 = .ok (.putfield 124, 3) := by decide +kernel
theorem dX7_send_105 : decode cX7_send 105 = .ok (.return_, 1) := by decide +kernel
theorem dX7_drop_0 : decode cX7_drop 0 = .ok (.aload_n 0, 1) := by decide +kernel
theorem dX7_drop_1 : decode cX7_drop 1 = .ok (.dup, 1) := by decide +kernel
theorem dX7_drop_2 : decode cX7_drop 2 = .ok (.getfield 124, 3) := by decide +kernel
theorem dX7_drop_5 : decode cX7_drop 5 = .ok (.iconst 1, 1) := by decide +kernel
theorem dX7_drop_6 : decode cX7_drop 6 = .ok (.isub, 1) := by decide +kernel
theorem dX7_drop_7 : decode cX7_drop 7 = .ok (.putfield 124, 3) := by decide +kernel
theorem dX7_drop_10 : decode cX7_drop 10 = .ok (.iload_n 1, 1) := by decide +kernel
theorem dX7_drop_11 : decode cX7_drop 11 = .ok (.istore_n 2, 1) := by decide +kernel
theorem dX7_drop_12 : decode cX7_drop 12 = .ok (.iload_n 2, 1) := by decide +kernel
theorem dX7_drop_13 : decode cX7_drop 13 = .ok (.aload_n 0, 1) := by decide +kernel
theorem dX7_drop_14 : decode cX7_drop 14 = .ok (.getfield 124, 3) := by decide +kernel
theorem dX7_drop_17 : decode cX7_drop 17 = .ok (.if_icmp .ge 121, 3) := by decide +kernel
theorem dX7_drop_20 : decode cX7_drop 20 = .ok (.aload_n 0, 1) := by decide +kernel
theorem dX7_drop_21 : decode cX7_drop 21 = .ok (.getfield 7, 3) := by decide +kernel
theorem dX7_drop_24 : decode cX7_drop 24 = .ok (.iload_n 2, 1) := by decide +kernel
theorem dX7_drop_25 : decode cX7_drop 25 = .ok (.aload_n 0, 1) := by decide +kernel
theorem dX7_drop_26 : decode cX7_drop 26 = .ok (.getfield 7, 3) := by decide +kernel
theorem dX7_drop_29 : decode cX7_drop 29 = .ok (.iload_n 2, 1) := by decide +kernel
theorem dX7_drop_30 : decode cX7_drop 30 = .ok (.iconst 1, 1) := by decide +kernel
theorem dX7_drop_31 : decode cX7_drop 31 = .ok (.iadd, 1) := by decide +kernel
theorem dX7_drop_32 : decode cX7_drop 32 = .ok (.iaload, 1) := by decide +kernel
theorem dX7_drop_33 : decode cX7_drop 33 = .ok (.iastore, 1) := by decide +kernel
theorem dX7_drop_34 : decode cX7_drop 34 = .ok (.aload_n 0, 1) := by decide +kernel
theorem dX7_drop_35 : decode cX7_drop 35 = .ok (.getfield 13, 3) := by decide +kernel
theorem dX7_drop_38 : decode cX7_drop 38 = .ok (.iload_n 2, 1) := by decide +kernel
theorem dX7_drop_39 : decode cX7_drop 39 = .ok (.aload_n 0, 1) := by decide +kernel
theorem dX7_drop_40 : decode cX7_drop 40 = .ok (.getfield 13, 3) := by decide +kernel
theorem dX7_drop_43 : decode cX7_drop 43 = .ok (.iload_n 2, 1) := by decide +kernel
theorem dX7_drop_44 : decode cX7_drop 44 = .ok (.iconst 1, 1) := by decide +kernel
theorem dX7_drop_45 : decode cX7_drop 45 = .ok (.iadd, 1) := by decide +kernel
theorem dX7_drop_46 : decode cX7_drop 46 = .ok (.iaload, 1) := by decide +kernel
theorem dX7_drop_47 : decode cX7_drop 47 = .ok (.iastore, 1) := by decide +kernel
theorem dX7_drop_48 : decode cX7_drop 48 = .ok (.aload_n 0, 1) := by decide +kernel
theorem dX7_drop_49 : decode cX7_drop 49 = .ok (.getfield 16, 3) := by decide +kernel
theorem dX7_drop_52 : decode cX7_drop 52 = .ok (.iload_n 2, 1) := by decide +kernel
theorem dX7_drop_53 : decode cX7_drop 53 = .ok (.aload_n 0, 1) := by decide +kernel
theorem dX7_drop_54 : decode cX7_drop 54 = .ok (.getfield 16, 3) := by decide +kernel
theorem dX7_drop_57 : decode cX7_drop 57 = .ok (.iload_n 2, 1) := by decide +kernel
theorem dX7_drop_58 : decode cX7_drop 58 = .ok (.iconst 1, 1) := by decide +kernel
theorem dX7_drop_59 : decode cX7_drop 59 = .ok (.iadd, 1) := by decide +kernel
theorem dX7_drop_60 : decode cX7_drop 60 = .ok (.iaload, 1) := by decide +kernel
theorem dX7_drop_61 : decode cX7_drop 61 = .ok (.iastore, 1) := by decide +kernel
theorem dX7_drop_62 : decode cX7_drop 62 = .ok (.aload_n 0, 1) := by decide +kernel
theorem dX7_drop_63 : decode cX7_drop 63 = .ok (.getfield 19, 3) := by decide +kernel
theorem dX7_drop_66 : decode cX7_drop 66 = .ok (.iload_n 2, 1) := by decide +kernel
theorem dX7_drop_67 : decode cX7_drop 67 = .ok (.aload_n 0, 1) := by decide +kernel
theorem dX7_drop_68 : decode cX7_drop 68 = .ok (.getfield 19, 3) := by decide +kernel
theorem dX7_drop_71 : decode cX7_drop 71 = .ok (.iload_n 2, 1) := by decide +kernel
theorem dX7_drop_72 : decode cX7_drop 72 = .ok (.iconst 1, 1) := by decide +kernel
theorem dX7_drop_73 : decode cX7_drop 73 = .ok (.iadd, 1) := by decide +kernel
theorem dX7_drop_74 : decode cX7_drop 74 = .ok (.iaload, 1) := by decide +kernel
theorem dX7_drop_75 : decode cX7_drop 75 = .ok (.iastore, 1) := by decide +kernel
theorem dX7_drop_76 : decode cX7_drop 76 = .ok (.aload_n 0, 1) := by decide +kernel
theorem dX7_drop_77 : decode cX7_drop 77 = .ok (.getfield 22, 3) := by decide +kernel
theorem dX7_drop_80 : decode cX7_drop 80 = .ok (.iload_n 2, 1) := by decide +kernel
theorem dX7_drop_81 : decode cX7_drop 81 = .ok (.aload_n 0, 1) := by decide +kernel
theorem dX7_drop_82 : decode cX7_drop 82 = .ok (.getfield 22, 3) := by decide +kernel
theorem dX7_drop_85 : decode cX7_drop 85 = .ok (.iload_n 2, 1) := by decide +kernel
theorem dX7_drop_86 : decode cX7_drop 86 = .ok (.iconst 1, 1) := by decide +kernel
theorem dX7_drop_87 : decode cX7_drop 87 = .ok (.iadd, 1) := by decide +kernel
theorem dX7_drop_88 : decode cX7_drop 88 = .ok (.iaload, 1) := by decide +kernel
theorem dX7_drop_89 : decode cX7_drop 89 = .ok (.iastore, 1) := by decide +kernel
theorem dX7_drop_90 : decode cX7_drop 90 = .ok (.aload_n 0, 1) := by decide +kernel
theorem dX7_drop_91 : decode cX7_drop 91 = .ok (.getfield 25, 3) := by decide +kernel
theorem dX7_drop_94 : decode cX7_drop 94 = .ok (.iload_n 2, 1) := by decide +kernel
theorem dX7_drop_95 : decode cX7_drop 95 = .ok (.aload_n 0, 1) := by decide +kernel
theorem dX7_drop_96 : decode cX7_drop 96 = .ok (.getfield 25, 3) := by decide +kernel
theorem dX7_drop_99 : decode cX7_drop 99 = .ok (.iload_n 2, 1) := by decide +kernel
theorem dX7_drop_100 : decode cX7_drop 100 = .ok (.iconst 1, 1) := by decide +kernel
theorem dX7_drop_101 : decode cX7_drop 101 = .ok (.iadd, 1) := by decide +kernel
theorem dX7_drop_102 : decode cX7_drop 102 = .ok (.baload, 1) := by decide +kernel
theorem dX7_drop_103 : decode cX7_drop 103 = .ok (.bastore, 1) := by decide +kernel
theorem dX7_drop_104 : decode cX7_drop 104 = .ok (.aload_n 0, 1) := by decide +kernel
theorem dX7_drop_105 : decode cX7_drop 105 = .ok (.getfield 29, 3) := by decide +kernel
theorem dX7_drop_108 : decode cX7_drop 108 = .ok (.iload_n 2, 1) := by decide +kernel
theorem dX7_drop_109 : decode cX7_drop 109 = .ok (.aload_n 0, 1) := by decide +kernel
theorem dX7_drop_110 : decode cX7_drop 110 = .ok (.getfield 29, 3) := by decide +kernel
theorem dX7_drop_113 : decode cX7_drop 113 = .ok (.iload_n 2, 1) := by decide +kernel
theorem dX7_drop_114 : decode cX7_drop 114 = .ok (.iconst 1, 1) := by decide +kernel
theorem dX7_drop_115 : decode cX7_drop 115 = .ok (.iadd, 1) := by decide +kernel
theorem dX7_drop_116 : decode cX7_drop 116 = .ok (.iaload, 1) := by decide +kernel
theorem dX7_drop_117 : decode cX7_drop 117 = .ok (.iastore, 1) := by decide +kernel
theorem dX7_drop_118 : decode cX7_drop 118 = .ok (.aload_n 0, 1) := by decide +kernel
theorem dX7_drop_119 : decode cX7_drop 119 = .ok (.getfield 32, 3) := by decide +kernel
theorem dX7_drop_122 : decode cX7_drop 122 = .ok (.iload_n 2, 1) := by decide +kernel
theorem dX7_drop_123 : decode cX7_drop 123 = .ok (.aload_n 0, 1) := by decide +kernel
theorem dX7_drop_124 : decode cX7_drop 124 = .ok (.getfield 32, 3) := by decide +kernel
theorem dX7_drop_127 : decode cX7_drop 127 = .ok (.iload_n 2, 1) := by decide +kernel
theorem dX7_drop_128 : decode cX7_drop 128 = .ok (.iconst 1, 1) := by decide +kernel
theorem dX7_drop_129 : decode cX7_drop 129 = .ok (.iadd, 1) := by decide +kernel
theorem dX7_drop_130 : decode cX7_drop 130 = .ok (.laload, 1) := by decide +kernel
theorem dX7_drop_131 : decode cX7_drop 131 = .ok (.lastore, 1) := by decide +kernel
theorem dX7_drop_132 : decode cX7_drop 132 = .ok (.iinc 2 1, 3) := by decide +kernel
theorem dX7_drop_135 : decode cX7_drop 135 = .ok (.goto (-123), 3) := by decide +kernel
theorem dX7_drop_138 : decode cX7_drop 138 = .ok (.return_, 1) := by decide +kernel
theorem dX7_noMessage_0 : decode cX7_noMessage 0 = .ok (.iload_n 1, 1) := by decide +kernel
theorem dX7_noMessage_1 : decode cX7_noMessage 1 = .ok (.ifCond .lt 11, 3) := by decide +kernel
theorem dX7_noMessage_4 : decode cX7_noMessage 4 = .ok (.iload_n 1, 1) := by decide +kernel
theorem dX7_noMessage_5 : decode cX7_noMessage 5 = .ok (.aload_n 0, 1) := by decide +kernel
theorem dX7_noMessage_6 : decode cX7_noMessage 6 = .ok (.getfield 124, 3) := by decide +kernel
theorem dX7_noMessage_9 : decode cX7_noMessage 9 = .ok (.if_icmp .lt 7, 3) := by decide +kernel
theorem dX7_noMessage_12 : decode cX7_noMessage 12 = .ok (.iconst 1, 1) := by decide +kernel
theorem dX7_noMessage_13 : decode cX7_noMessage 13 = .ok (.goto 4, 3) := by decide +kernel
theorem dX7_noMessage_16 : decode cX7_noMessage 16 = .ok (.iconst 0, 1) := by decide +kernel
theorem dX7_noMessage_17 : decode cX7_noMessage 17 = .ok (.ireturn, 1) := by decide +kernel
theorem dX7_bits_0 : decode cX7_bits 0 = .ok (.iconst 0, 1) := by decide +kernel
theorem dX7_bits_1 : decode cX7_bits 1 = .ok (.istore_n 1, 1) := by decide +kernel
theorem dX7_bits_2 : decode cX7_bits 2 = .ok (.iconst 0, 1) := by decide +kernel
theorem dX7_bits_3 : decode cX7_bits 3 = .ok (.istore_n 2, 1) := by decide +kernel
theorem dX7_bits_4 : decode cX7_bits 4 = .ok (.iload_n 2, 1) := by decide +kernel
theorem dX7_bits_5 : decode cX7_bits 5 = .ok (.bipush 9, 2) := by decide +kernel
theorem dX7_bits_7 : decode cX7_bits 7 = .ok (.if_icmp .ge 17, 3) := by decide +kernel
theorem dX7_bits_10 : decode cX7_bits 10 = .ok (.iload_n 1, 1) := by decide +kernel
theorem dX7_bits_11 : decode cX7_bits 11 = .ok (.iload_n 0, 1) := by decide +kernel
theorem dX7_bits_12 : decode cX7_bits 12 = .ok (.iload_n 2, 1) := by decide +kernel
theorem dX7_bits_13 : decode cX7_bits 13 = .ok (.ishr, 1) := by decide +kernel
theorem dX7_bits_14 : decode cX7_bits 14 = .ok (.iconst 1, 1) := by decide +kernel
theorem dX7_bits_15 : decode cX7_bits 15 = .ok (.iand, 1) := by decide +kernel
theorem dX7_bits_16 : decode cX7_bits 16 = .ok (.iadd, 1) := by decide +kernel
theorem dX7_bits_17 : decode cX7_bits 17 = .ok (.istore_n 1, 1) := by decide +kernel
theorem dX7_bits_18 : decode cX7_bits 18 = .ok (.iinc 2 1, 3) := by decide +kernel
theorem dX7_bits_21 : decode cX7_bits 21 = .ok (.goto (-17), 3) := by decide +kernel
theorem dX7_bits_24 : decode cX7_bits 24 = .ok (.iload_n 1, 1) := by decide +kernel
theorem dX7_bits_25 : decode cX7_bits 25 = .ok (.ireturn, 1) := by decide +kernel
theorem dX7_noAsker_0 : decode cX7_noAsker 0 = .ok (.iload_n 0, 1) := by decide +kernel
theorem dX7_noAsker_1 : decode cX7_noAsker 1 = .ok (.ifCond .lt 8, 3) := by decide +kernel
theorem dX7_noAsker_4 : decode cX7_noAsker 4 = .ok (.iload_n 0, 1) := by decide +kernel
theorem dX7_noAsker_5 : decode cX7_noAsker 5 = .ok (.iconst 4, 1) := by decide +kernel
theorem dX7_noAsker_6 : decode cX7_noAsker 6 = .ok (.if_icmp .lt 7, 3) := by decide +kernel
theorem dX7_noAsker_9 : decode cX7_noAsker 9 = .ok (.iconst 1, 1) := by decide +kernel
theorem dX7_noAsker_10 : decode cX7_noAsker 10 = .ok (.goto 4, 3) := by decide +kernel
theorem dX7_noAsker_13 : decode cX7_noAsker 13 = .ok (.iconst 0, 1) := by decide +kernel
theorem dX7_noAsker_14 : decode cX7_noAsker 14 = .ok (.ireturn, 1) := by decide +kernel
theorem dX7_noKeeper_0 : decode cX7_noKeeper 0 = .ok (.iload_n 0, 1) := by decide +kernel
theorem dX7_noKeeper_1 : decode cX7_noKeeper 1 = .ok (.ifCond .lt 9, 3) := by decide +kernel
theorem dX7_noKeeper_4 : decode cX7_noKeeper 4 = .ok (.iload_n 0, 1) := by decide +kernel
theorem dX7_noKeeper_5 : decode cX7_noKeeper 5 = .ok (.bipush 9, 2) := by decide +kernel
theorem dX7_noKeeper_7 : decode cX7_noKeeper 7 = .ok (.if_icmp .lt 7, 3) := by decide +kernel
theorem dX7_noKeeper_10 : decode cX7_noKeeper 10 = .ok (.iconst 1, 1) := by decide +kernel
theorem dX7_noKeeper_11 : decode cX7_noKeeper 11 = .ok (.goto 4, 3) := by decide +kernel
theorem dX7_noKeeper_14 : decode cX7_noKeeper 14 = .ok (.iconst 0, 1) := by decide +kernel
theorem dX7_noKeeper_15 : decode cX7_noKeeper 15 = .ok (.ireturn, 1) := by decide +kernel
theorem dX7_noKey_0 : decode cX7_noKey 0 = .ok (.iload_n 0, 1) := by decide +kernel
theorem dX7_noKey_1 : decode cX7_noKey 1 = .ok (.ifCond .lt 8, 3) := by decide +kernel
theorem dX7_noKey_4 : decode cX7_noKey 4 = .ok (.iload_n 0, 1) := by decide +kernel
theorem dX7_noKey_5 : decode cX7_noKey 5 = .ok (.iconst 4, 1) := by decide +kernel
theorem dX7_noKey_6 : decode cX7_noKey 6 = .ok (.if_icmp .lt 7, 3) := by decide +kernel
theorem dX7_noKey_9 : decode cX7_noKey 9 = .ok (.iconst 1, 1) := by decide +kernel
theorem dX7_noKey_10 : decode cX7_noKey 10 = .ok (.goto 4, 3) := by decide +kernel
theorem dX7_noKey_13 : decode cX7_noKey 13 = .ok (.iconst 0, 1) := by decide +kernel
theorem dX7_noKey_14 : decode cX7_noKey 14 = .ok (.ireturn, 1) := by decide +kernel
set_option maxRecDepth 20000 in
theorem ggX7_ask_X7_noAsker : GoodIn wsX7_ask wsX7_noAsker := goodIn_r _ [23] (by decide +kernel) (by decide +kernel)
set_option maxRecDepth 20000 in
theorem gX7_ask_X7_noAsker : GoodIn wsX7_ask (va_wsS RX7 127 yX7_noAsker wsX7_noAsker) := goodIn_app (goodIn_of _ (by decide +kernel)) ggX7_ask_X7_noAsker
set_option maxRecDepth 20000 in
theorem ggX7_ask_X7_noKey : GoodIn wsX7_ask wsX7_noKey := goodIn_r _ [26] (by decide +kernel) (by decide +kernel)
set_option maxRecDepth 20000 in
theorem gX7_ask_X7_noKey : GoodIn wsX7_ask (va_wsS RX7 131 yX7_noKey wsX7_noKey) := goodIn_app (goodIn_of _ (by decide +kernel)) ggX7_ask_X7_noKey
set_option maxRecDepth 20000 in
theorem ggX7_ask_X7_send : GoodIn wsX7_ask wsX7_send := goodIn_r _ [30, 31, 32, 33, 34, 35, 36, 37, 38, 39, 40, 41, 42, 43, 44, 45, 46, 47, 48, 49, 50, 51, 52, 53, 54, 55, 56, 57, 58, 59, 60, 61, 62, 63, 64, 65, 66, 67, 68, 69, 70, 71, 72, 73, 74, 75, 76, 77, 78] (by decide +kernel) (by decide +kernel)
set_option maxRecDepth 20000 in
theorem gX7_ask_X7_send : GoodIn wsX7_ask (wsV RX7 137 RX7 yX7_send wsX7_send) := goodIn_app (goodIn_of _ (by decide +kernel)) ggX7_ask_X7_send
theorem dX7_ask_0 : decode cX7_ask 0 = .ok (.aload_n 0, 1) := by decide +kernel
theorem dX7_ask_1 : decode cX7_ask 1 = .ok (.iload_n 1, 1) := by decide +kernel
theorem dX7_ask_2 : decode cX7_ask 2 = .ok (.invokestatic 127, 3) := by decide +kernel
theorem dX7_ask_5 : decode cX7_ask 5 = .ok (.ifCond .ne 10, 3) := by decide +kernel
theorem dX7_ask_8 : decode cX7_ask 8 = .ok (.iload_n 2, 1) := by decide +kernel
theorem dX7_ask_9 : decode cX7_ask 9 = .ok (.invokestatic 131, 3) := by decide +kernel
theorem dX7_ask_12 : decode cX7_ask 12 = .ok (.ifCond .eq 7, 3) := by decide +kernel
theorem dX7_ask_15 : decode cX7_ask 15 = .ok (.iconst 1, 1) := by decide +kernel
theorem dX7_ask_16 : decode cX7_ask 16 = .ok (.goto 18, 3) := by decide +kernel
theorem dX7_ask_19 : decode cX7_ask 19 = .ok (.iload_n 3, 1) := by decide +kernel
theorem dX7_ask_20 : decode cX7_ask 20 = .ok (.ifCond .lt 9, 3) := by decide +kernel
theorem dX7_ask_23 : decode cX7_ask 23 = .ok (.iload_n 3, 1) := by decide +kernel
theorem dX7_ask_24 : decode cX7_ask 24 = .ok (.bipush 6, 2) := by decide +kernel
theorem dX7_ask_26 : decode cX7_ask 26 = .ok (.if_icmp .le 7, 3) := by decide +kernel
theorem dX7_ask_29 : decode cX7_ask 29 = .ok (.iconst 2, 1) := by decide +kernel
theorem dX7_ask_30 : decode cX7_ask 30 = .ok (.goto 4, 3) := by decide +kernel
theorem dX7_ask_33 : decode cX7_ask 33 = .ok (.iconst 0, 1) := by decide +kernel
theorem dX7_ask_34 : decode cX7_ask 34 = .ok (.putfield 120, 3) := by decide +kernel
theorem dX7_ask_37 : decode cX7_ask 37 = .ok (.aload_n 0, 1) := by decide +kernel
theorem dX7_ask_38 : decode cX7_ask 38 = .ok (.getfield 120, 3) := by decide +kernel
theorem dX7_ask_41 : decode cX7_ask 41 = .ok (.ifCond .le 5, 3) := by decide +kernel
theorem dX7_ask_44 : decode cX7_ask 44 = .ok (.iconst 0, 1) := by decide +kernel
theorem dX7_ask_45 : decode cX7_ask 45 = .ok (.ireturn, 1) := by decide +kernel
theorem dX7_ask_46 : decode cX7_ask 46 = .ok (.aload_n 0, 1) := by decide +kernel
theorem dX7_ask_47 : decode cX7_ask 47 = .ok (.getfield 69, 3) := by decide +kernel
theorem dX7_ask_50 : decode cX7_ask 50 = .ok (.iload_n 1, 1) := by decide +kernel
theorem dX7_ask_51 : decode cX7_ask 51 = .ok (.iaload, 1) := by decide +kernel
theorem dX7_ask_52 : decode cX7_ask 52 = .ok (.ifCond .ge 13, 3) := by decide +kernel
theorem dX7_ask_55 : decode cX7_ask 55 = .ok (.aload_n 0, 1) := by decide +kernel
theorem dX7_ask_56 : decode cX7_ask 56 = .ok (.getfield 134, 3) := by decide +kernel
theorem dX7_ask_59 : decode cX7_ask 59 = .ok (.sipush 200, 3) := by decide +kernel
theorem dX7_ask_62 : decode cX7_ask 62 = .ok (.if_icmp .ne 5, 3) := by decide +kernel
theorem dX7_ask_65 : decode cX7_ask 65 = .ok (.iconst (-1), 1) := by decide +kernel
theorem dX7_ask_66 : decode cX7_ask 66 = .ok (.ireturn, 1) := by decide +kernel
theorem dX7_ask_67 : decode cX7_ask 67 = .ok (.aload_n 0, 1) := by decide +kernel
theorem dX7_ask_68 : decode cX7_ask 68 = .ok (.getfield 134, 3) := by decide +kernel
theorem dX7_ask_71 : decode cX7_ask 71 = .ok (.istore 6, 2) := by decide +kernel
theorem dX7_ask_73 : decode cX7_ask 73 = .ok (.aload_n 0, 1) := by decide +kernel
theorem dX7_ask_74 : decode cX7_ask 74 = .ok (.dup, 1) := by decide +kernel
theorem dX7_ask_75 : decode cX7_ask 75 = .ok (.getfield 134, 3) := by decide +kernel
theorem dX7_ask_78 : decode cX7_ask 78 = .ok (.iconst 1, 1) := by decide +kernel
theorem dX7_ask_79 : decode cX7_ask 79 = .ok (.iadd, 1) := by decide +kernel
theorem dX7_ask_80 : decode cX7_ask 80 = .ok (.putfield 134, 3) := by decide +kernel
theorem dX7_ask_83 : decode cX7_ask 83 = .ok (.aload_n 0, 1) := by decide +kernel
theorem dX7_ask_84 : decode cX7_ask 84 = .ok (.getfield 54, 3) := by decide +kernel
theorem dX7_ask_87 : decode cX7_ask 87 = .ok (.iload_n 1, 1) := by decide +kernel
theorem dX7_ask_88 : decode cX7_ask 88 = .ok (.dup2, 1) := by decide +kernel
theorem dX7_ask_89 : decode cX7_ask 89 = .ok (.iaload, 1) := by decide +kernel
theorem dX7_ask_90 : decode cX7_ask 90 = .ok (.iconst 1, 1) := by decide +kernel
theorem dX7_ask_91 : decode cX7_ask 91 = .ok (.iadd, 1) := by decide +kernel
theorem dX7_ask_92 : decode cX7_ask 92 = .ok (.iastore, 1) := by decide +kernel
theorem dX7_ask_93 : decode cX7_ask 93 = .ok (.aload_n 0, 1) := by decide +kernel
theorem dX7_ask_94 : decode cX7_ask 94 = .ok (.getfield 93, 3) := by decide +kernel
theorem dX7_ask_97 : decode cX7_ask 97 = .ok (.iload 6, 2) := by decide +kernel
theorem dX7_ask_99 : decode cX7_ask 99 = .ok (.iload_n 2, 1) := by decide +kernel
theorem dX7_ask_100 : decode cX7_ask 100 = .ok (.iastore, 1) := by decide +kernel
theorem dX7_ask_101 : decode cX7_ask 101 = .ok (.aload_n 0, 1) := by decide +kernel
theorem dX7_ask_102 : decode cX7_ask 102 = .ok (.getfield 96, 3) := by decide +kernel
theorem dX7_ask_105 : decode cX7_ask 105 = .ok (.iload 6, 2) := by decide +kernel
theorem dX7_ask_107 : decode cX7_ask 107 = .ok (.iload_n 3, 1) := by decide +kernel
theorem dX7_ask_108 : decode cX7_ask 108 = .ok (.iastore, 1) := by decide +kernel
theorem dX7_ask_109 : decode cX7_ask 109 = .ok (.aload_n 0, 1) := by decide +kernel
theorem dX7_ask_110 : decode cX7_ask 110 = .ok (.getfield 99, 3) := by decide +kernel
theorem dX7_ask_113 : decode cX7_ask 113 = .ok (.iload 6, 2) := by decide +kernel
theorem dX7_ask_115 : decode cX7_ask 115 = .ok (.lload 4, 2) := by decide +kernel
theorem dX7_ask_117 : decode cX7_ask 117 = .ok (.lastore, 1) := by decide +kernel
theorem dX7_ask_118 : decode cX7_ask 118 = .ok (.aload_n 0, 1) := by decide +kernel
theorem dX7_ask_119 : decode cX7_ask 119 = .ok (.getfield 102, 3) := by decide +kernel
theorem dX7_ask_122 : decode cX7_ask 122 = .ok (.iload 6, 2) := by decide +kernel
theorem dX7_ask_124 : decode cX7_ask 124 = .ok (.iconst 4, 1) := by decide +kernel
theorem dX7_ask_125 : decode cX7_ask 125 = .ok (.aload_n 0, 1) := by decide +kernel
theorem dX7_ask_126 : decode cX7_ask 126 = .ok (.getfield 54, 3) := by decide +kernel
theorem dX7_ask_129 : decode cX7_ask 129 = .ok (.iload_n 1, 1) := by decide +kernel
theorem dX7_ask_130 : decode cX7_ask 130 = .ok (.iaload, 1) := by decide +kernel
theorem dX7_ask_131 : decode cX7_ask 131 = .ok (.imul, 1) := by decide +kernel
theorem dX7_ask_132 : decode cX7_ask 132 = .ok (.iload_n 1, 1) := by decide +kernel
theorem dX7_ask_133 : decode cX7_ask 133 = .ok (.iadd, 1) := by decide +kernel
theorem dX7_ask_134 : decode cX7_ask 134 = .ok (.iastore, 1) := by decide +kernel
theorem dX7_ask_135 : decode cX7_ask 135 = .ok (.aload_n 0, 1) := by decide +kernel
theorem dX7_ask_136 : decode cX7_ask 136 = .ok (.getfield 105, 3) := by decide +kernel
theorem dX7_ask_139 : decode cX7_ask 139 = .ok (.iload 6, 2) := by decide +kernel
theorem dX7_ask_141 : decode cX7_ask 141 = .ok (.iconst 0, 1) := by decide +kernel
theorem dX7_ask_142 : decode cX7_ask 142 = .ok (.iastore, 1) := by decide +kernel
theorem dX7_ask_143 : decode cX7_ask 143 = .ok (.aload_n 0, 1) := by decide +kernel
theorem dX7_ask_144 : decode cX7_ask 144 = .ok (.getfield 69, 3) := by decide +kernel
theorem dX7_ask_147 : decode cX7_ask 147 = .ok (.iload_n 1, 1) := by decide +kernel
theorem dX7_ask_148 : decode cX7_ask 148 = .ok (.iload 6, 2) := by decide +kernel
theorem dX7_ask_150 : decode cX7_ask 150 = .ok (.iastore, 1) := by decide +kernel
theorem dX7_ask_151 : decode cX7_ask 151 = .ok (.aload_n 0, 1) := by decide +kernel
theorem dX7_ask_152 : decode cX7_ask 152 = .ok (.getfield 72, 3) := by decide +kernel
theorem dX7_ask_155 : decode cX7_ask 155 = .ok (.iload_n 1, 1) := by decide +kernel
theorem dX7_ask_156 : decode cX7_ask 156 = .ok (.iconst 0, 1) := by decide +kernel
theorem dX7_ask_157 : decode cX7_ask 157 = .ok (.bastore, 1) := by decide +kernel
theorem dX7_ask_158 : decode cX7_ask 158 = .ok (.aload_n 0, 1) := by decide +kernel
theorem dX7_ask_159 : decode cX7_ask 159 = .ok (.getfield 75, 3) := by decide +kernel
theorem dX7_ask_162 : decode cX7_ask 162 = .ok (.iload_n 1, 1) := by decide +kernel
theorem dX7_ask_163 : decode cX7_ask 163 = .ok (.iconst 0, 1) := by decide +kernel
theorem dX7_ask_164 : decode cX7_ask 164 = .ok (.iastore, 1) := by decide +kernel
theorem dX7_ask_165 : decode cX7_ask 165 = .ok (.aload_n 0, 1) := by decide +kernel
theorem dX7_ask_166 : decode cX7_ask 166 = .ok (.getfield 78, 3) := by decide +kernel
theorem dX7_ask_169 : decode cX7_ask 169 = .ok (.iload_n 1, 1) := by decide +kernel
theorem dX7_ask_170 : decode cX7_ask 170 = .ok (.iconst 0, 1) := by decide +kernel
theorem dX7_ask_171 : decode cX7_ask 171 = .ok (.iastore, 1) := by decide +kernel
theorem dX7_ask_172 : decode cX7_ask 172 = .ok (.aload_n 0, 1) := by decide +kernel
theorem dX7_ask_173 : decode cX7_ask 173 = .ok (.getfield 81, 3) := by decide +kernel
theorem dX7_ask_176 : decode cX7_ask 176 = .ok (.iload_n 1, 1) := by decide +kernel
theorem dX7_ask_177 : decode cX7_ask 177 = .ok (.iconst 0, 1) := by decide +kernel
theorem dX7_ask_178 : decode cX7_ask 178 = .ok (.bastore, 1) := by decide +kernel
theorem dX7_ask_179 : decode cX7_ask 179 = .ok (.aload_n 0, 1) := by decide +kernel
theorem dX7_ask_180 : decode cX7_ask 180 = .ok (.getfield 84, 3) := by decide +kernel
theorem dX7_ask_183 : decode cX7_ask 183 = .ok (.iload_n 1, 1) := by decide +kernel
theorem dX7_ask_184 : decode cX7_ask 184 = .ok (.iconst 0, 1) := by decide +kernel
theorem dX7_ask_185 : decode cX7_ask 185 = .ok (.iastore, 1) := by decide +kernel
theorem dX7_ask_186 : decode cX7_ask 186 = .ok (.aload_n 0, 1) := by decide +kernel
theorem dX7_ask_187 : decode cX7_ask 187 = .ok (.getfield 87, 3) := by decide +kernel
theorem dX7_ask_190 : decode cX7_ask 190 = .ok (.iload_n 1, 1) := by decide +kernel
theorem dX7_ask_191 : decode cX7_ask 191 = .ok (.lconst 0, 1) := by decide +kernel
theorem dX7_ask_192 : decode cX7_ask 192 = .ok (.lastore, 1) := by decide +kernel
theorem dX7_ask_193 : decode cX7_ask 193 = .ok (.iconst 2, 1) := by decide +kernel
theorem dX7_ask_194 : decode cX7_ask 194 = .ok (.iload_n 1, 1) := by decide +kernel
theorem dX7_ask_195 : decode cX7_ask 195 = .ok (.imul, 1) := by decide +kernel
theorem dX7_ask_196 : decode cX7_ask 196 = .ok (.istore 7, 2) := by decide +kernel
theorem dX7_ask_198 : decode cX7_ask 198 = .ok (.iload 7, 2) := by decide +kernel
theorem dX7_ask_200 : decode cX7_ask 200 = .ok (.iconst 2, 1) := by decide +kernel
theorem dX7_ask_201 : decode cX7_ask 201 = .ok (.iload_n 1, 1) := by decide +kernel
theorem dX7_ask_202 : decode cX7_ask 202 = .ok (.imul, 1) := by decide +kernel
theorem dX7_ask_203 : decode cX7_ask 203 = .ok (.iconst 2, 1) := by decide +kernel
theorem dX7_ask_204 : decode cX7_ask 204 = .ok (.iadd, 1) := by decide +kernel
theorem dX7_ask_205 : decode cX7_ask 205 = .ok (.if_icmp .ge 37, 3) := by decide +kernel
theorem dX7_ask_208 : decode cX7_ask 208 = .ok (.aload_n 0, 1) := by decide +kernel
theorem dX7_ask_209 : decode cX7_ask 209 = .ok (.getfield 63, 3) := by decide +kernel
theorem dX7_ask_212 : decode cX7_ask 212 = .ok (.iload 7, 2) := by decide +kernel
theorem dX7_ask_214 : decode cX7_ask 214 = .ok (.aload_n 0, 1) := by decide +kernel
theorem dX7_ask_215 : decode cX7_ask 215 = .ok (.getfield 57, 3) := by decide +kernel
theorem dX7_ask_218 : decode cX7_ask 218 = .ok (.iload 7, 2) := by decide +kernel
theorem dX7_ask_220 : decode cX7_ask 220 = .ok (.iaload, 1) := by decide +kernel
theorem dX7_ask_221 : decode cX7_ask 221 = .ok (.iastore, 1) := by decide +kernel
theorem dX7_ask_222 : decode cX7_ask 222 = .ok (.aload_n 0, 1) := by decide +kernel
theorem dX7_ask_223 : decode cX7_ask 223 = .ok (.getfield 66, 3) := by decide +kernel
theorem dX7_ask_226 : decode cX7_ask 226 = .ok (.iload 7, 2) := by decide +kernel
theorem dX7_ask_228 : decode cX7_ask 228 = .ok (.aload_n 0, 1) := by decide +kernel
theorem dX7_ask_229 : decode cX7_ask 229 = .ok (.getfield 60, 3) := by decide +kernel
theorem dX7_ask_232 : decode cX7_ask 232 = .ok (.iload 7, 2) := by decide +kernel
theorem dX7_ask_234 : decode cX7_ask 234 = .ok (.iaload, 1) := by decide +kernel
theorem dX7_ask_235 : decode cX7_ask 235 = .ok (.iastore, 1) := by decide +kernel
theorem dX7_ask_236 : decode cX7_ask 236 = .ok (.iinc 7 1, 3) := by decide +kernel
theorem dX7_ask_239 : decode cX7_ask 239 = .ok (.goto (-41), 3) := by decide +kernel
theorem dX7_ask_242 : decode cX7_ask 242 = .ok (.iconst 0, 1) := by decide +kernel
theorem dX7_ask_243 : decode cX7_ask 243 = .ok (.istore 7, 2) := by decide +kernel
theorem dX7_ask_245 : decode cX7_ask 245 = .ok (.iload 7, 2) := by decide +kernel
theorem dX7_ask_247 : decode cX7_ask 247 = .ok (.bipush 9, 2) := by decide +kernel
theorem dX7_ask_249 : decode cX7_ask 249 = .ok (.if_icmp .ge 46, 3) := by decide +kernel
theorem dX7_ask_252 : decode cX7_ask 252 = .ok (.aload_n 0, 1) := by decide +kernel
theorem dX7_ask_253 : decode cX7_ask 253 = .ok (.getfield 63, 3) := by decide +kernel
theorem dX7_ask_256 : decode cX7_ask 256 = .ok (.iconst 2, 1) := by decide +kernel
theorem dX7_ask_257 : decode cX7_ask 257 = .ok (.iload_n 1, 1) := by decide +kernel
theorem dX7_ask_258 : decode cX7_ask 258 = .ok (.imul, 1) := by decide +kernel
theorem dX7_ask_259 : decode cX7_ask 259 = .ok (.iaload, 1) := by decide +kernel
theorem dX7_ask_260 : decode cX7_ask 260 = .ok (.iload 7, 2) := by decide +kernel
theorem dX7_ask_262 : decode cX7_ask 262 = .ok (.ishr, 1) := by decide +kernel
theorem dX7_ask_263 : decode cX7_ask 263 = .ok (.iconst 1, 1) := by decide +kernel
theorem dX7_ask_264 : decode cX7_ask 264 = .ok (.iand, 1) := by decide +kernel
theorem dX7_ask_265 : decode cX7_ask 265 = .ok (.iconst 1, 1) := by decide +kernel
theorem dX7_ask_266 : decode cX7_ask 266 = .ok (.if_icmp .ne 23, 3) := by decide +kernel
theorem dX7_ask_269 : decode cX7_ask 269 = .ok (.aload_n 0, 1) := by decide +kernel
theorem dX7_ask_270 : decode cX7_ask 270 = .ok (.iconst 0, 1) := by decide +kernel
theorem dX7_ask_271 : decode cX7_ask 271 = .ok (.iload_n 1, 1) := by decide +kernel
theorem dX7_ask_272 : decode cX7_ask 272 = .ok (.iload 7, 2) := by decide +kernel
theorem dX7_ask_274 : decode cX7_ask 274 = .ok (.iload 6, 2) := by decide +kernel
theorem dX7_ask_276 : decode cX7_ask 276 = .ok (.aload_n 0, 1) := by decide +kernel
theorem dX7_ask_277 : decode cX7_ask 277 = .ok (.getfield 102, 3) := by decide +kernel
theorem dX7_ask_280 : decode cX7_ask 280 = .ok (.iload 6, 2) := by decide +kernel
theorem dX7_ask_282 : decode cX7_ask 282 = .ok (.iaload, 1) := by decide +kernel
theorem dX7_ask_283 : decode cX7_ask 283 = .ok (.iconst 0, 1) := by decide +kernel
theorem dX7_ask_284 : decode cX7_ask 284 = .ok (.iconst 0, 1) := by decide +kernel
theorem dX7_ask_285 : decode cX7_ask 285 = .ok (.lconst 0, 1) := by decide +kernel
theorem dX7_ask_286 : decode cX7_ask 286 = .ok (.invokevirtual 137, 3) := by decide +kernel
theorem dX7_ask_289 : decode cX7_ask 289 = .ok (.iinc 7 1, 3) := by decide +kernel
theorem dX7_ask_292 : decode cX7_ask 292 = .ok (.goto (-47), 3) := by decide +kernel
theorem dX7_ask_295 : decode cX7_ask 295 = .ok (.iload 6, 2) := by decide +kernel
theorem dX7_ask_297 : decode cX7_ask 297 = .ok (.ireturn, 1) := by decide +kernel
theorem dX7_lose0_0 : decode cX7_lose0 0 = .ok (.aload_n 0, 1) := by decide +kernel
theorem dX7_lose0_1 : decode cX7_lose0 1 = .ok (.getfield 105, 3) := by decide +kernel
theorem dX7_lose0_4 : decode cX7_lose0 4 = .ok (.aload_n 0, 1) := by decide +kernel
theorem dX7_lose0_5 : decode cX7_lose0 5 = .ok (.getfield 69, 3) := by decide +kernel
theorem dX7_lose0_8 : decode cX7_lose0 8 = .ok (.iload_n 1, 1) := by decide +kernel
theorem dX7_lose0_9 : decode cX7_lose0 9 = .ok (.iaload, 1) := by decide +kernel
theorem dX7_lose0_10 : decode cX7_lose0 10 = .ok (.iconst 2, 1) := by decide +kernel
theorem dX7_lose0_11 : decode cX7_lose0 11 = .ok (.iastore, 1) := by decide +kernel
theorem dX7_lose0_12 : decode cX7_lose0 12 = .ok (.aload_n 0, 1) := by decide +kernel
theorem dX7_lose0_13 : decode cX7_lose0 13 = .ok (.getfield 69, 3) := by decide +kernel
theorem dX7_lose0_16 : decode cX7_lose0 16 = .ok (.iload_n 1, 1) := by decide +kernel
theorem dX7_lose0_17 : decode cX7_lose0 17 = .ok (.iconst (-1), 1) := by decide +kernel
theorem dX7_lose0_18 : decode cX7_lose0 18 = .ok (.iastore, 1) := by decide +kernel
theorem dX7_lose0_19 : decode cX7_lose0 19 = .ok (.return_, 1) := by decide +kernel
set_option maxRecDepth 20000 in
theorem ggX7_give_X7_noAsker : GoodIn wsX7_give wsX7_noAsker := goodIn_r _ [6] (by decide +kernel) (by decide +kernel)
set_option maxRecDepth 20000 in
theorem gX7_give_X7_noAsker : GoodIn wsX7_give (va_wsS RX7 127 yX7_noAsker wsX7_noAsker) := goodIn_app (goodIn_of _ (by decide +kernel)) ggX7_give_X7_noAsker
set_option maxRecDepth 20000 in
theorem ggX7_give_X7_lose0 : GoodIn wsX7_give wsX7_lose0 := goodIn_r _ [10, 11, 2, 12, 13, 14, 15, 16, 17, 18, 19, 20, 21, 22, 23, 24, 25, 26, 27, 28, 29, 30, 31, 32, 33, 34, 35, 36, 37, 38, 39, 40, 41, 42, 43, 44, 45, 46, 47, 48, 49, 50] (by decide +kernel) (by decide +kernel)
set_option maxRecDepth 20000 in
theorem gX7_give_X7_lose0 : GoodIn wsX7_give (wsV RX7 141 RX7 yX7_lose0 wsX7_lose0) := goodIn_app (goodIn_of _ (by decide +kernel)) ggX7_give_X7_lose0
theorem dX7_give_0 : decode cX7_give 0 = .ok (.aload_n 0, 1) := by decide +kernel
theorem dX7_give_1 : decode cX7_give 1 = .ok (.iload_n 1, 1) := by decide +kernel
theorem dX7_give_2 : decode cX7_give 2 = .ok (.invokestatic 127, 3) := by decide +kernel
theorem dX7_give_5 : decode cX7_give 5 = .ok (.ifCond .eq 7, 3) := by decide +kernel
theorem dX7_give_8 : decode cX7_give 8 = .ok (.iconst 1, 1) := by decide +kernel
theorem dX7_give_9 : decode cX7_give 9 = .ok (.goto 4, 3) := by decide +kernel
theorem dX7_give_12 : decode cX7_give 12 = .ok (.iconst 0, 1) := by decide +kernel
theorem dX7_give_13 : decode cX7_give 13 = .ok (.putfield 120, 3) := by decide +kernel
theorem dX7_give_16 : decode cX7_give 16 = .ok (.aload_n 0, 1) := by decide +kernel
theorem dX7_give_17 : decode cX7_give 17 = .ok (.getfield 120, 3) := by decide +kernel
theorem dX7_give_20 : decode cX7_give 20 = .ok (.ifCond .le 5, 3) := by decide +kernel
theorem dX7_give_23 : decode cX7_give 23 = .ok (.iconst 0, 1) := by decide +kernel
theorem dX7_give_24 : decode cX7_give 24 = .ok (.ireturn, 1) := by decide +kernel
theorem dX7_give_25 : decode cX7_give 25 = .ok (.aload_n 0, 1) := by decide +kernel
theorem dX7_give_26 : decode cX7_give 26 = .ok (.getfield 69, 3) := by decide +kernel
theorem dX7_give_29 : decode cX7_give 29 = .ok (.iload_n 1, 1) := by decide +kernel
theorem dX7_give_30 : decode cX7_give 30 = .ok (.iaload, 1) := by decide +kernel
theorem dX7_give_31 : decode cX7_give 31 = .ok (.istore_n 2, 1) := by decide +kernel
theorem dX7_give_32 : decode cX7_give 32 = .ok (.iload_n 2, 1) := by decide +kernel
theorem dX7_give_33 : decode cX7_give 33 = .ok (.ifCond .lt 8, 3) := by decide +kernel
theorem dX7_give_36 : decode cX7_give 36 = .ok (.aload_n 0, 1) := by decide +kernel
theorem dX7_give_37 : decode cX7_give 37 = .ok (.iload_n 1, 1) := by decide +kernel
theorem dX7_give_38 : decode cX7_give 38 = .ok (.invokevirtual 141, 3) := by decide +kernel
theorem dX7_give_41 : decode cX7_give 41 = .ok (.iload_n 2, 1) := by decide +kernel
theorem dX7_give_42 : decode cX7_give 42 = .ok (.ireturn, 1) := by decide +kernel
set_option maxRecDepth 20000 in
theorem ggX7_plan_X7_noAsker : GoodIn wsX7_plan wsX7_noAsker := goodIn_r _ [7] (by decide +kernel) (by decide +kernel)
set_option maxRecDepth 20000 in
theorem gX7_plan_X7_noAsker : GoodIn wsX7_plan (va_wsS RX7 127 yX7_noAsker wsX7_noAsker) := goodIn_app (goodIn_of _ (by decide +kernel)) ggX7_plan_X7_noAsker
set_option maxRecDepth 20000 in
theorem ggX7_plan_X7_bits : GoodIn wsX7_plan wsX7_bits := goodIn_r _ [10] (by decide +kernel) (by decide +kernel)
set_option maxRecDepth 20000 in
theorem gX7_plan_X7_bits : GoodIn wsX7_plan (va_wsS RX7 145 yX7_bits wsX7_bits) := goodIn_app (goodIn_of _ (by decide +kernel)) ggX7_plan_X7_bits
theorem dX7_plan_0 : decode cX7_plan 0 = .ok (.aload_n 0, 1) := by decide +kernel
theorem dX7_plan_1 : decode cX7_plan 1 = .ok (.iload_n 1, 1) := by decide +kernel
theorem dX7_plan_2 : decode cX7_plan 2 = .ok (.invokestatic 127, 3) := by decide +kernel
theorem dX7_plan_5 : decode cX7_plan 5 = .ok (.ifCond .ne 12, 3) := by decide +kernel
theorem dX7_plan_8 : decode cX7_plan 8 = .ok (.iload_n 2, 1) := by decide +kernel
theorem dX7_plan_9 : decode cX7_plan 9 = .ok (.ifCond .lt 8, 3) := by decide +kernel
theorem dX7_plan_12 : decode cX7_plan 12 = .ok (.iload_n 2, 1) := by decide +kernel
theorem dX7_plan_13 : decode cX7_plan 13 = .ok (.iconst 1, 1) := by decide +kernel
theorem dX7_plan_14 : decode cX7_plan 14 = .ok (.if_icmp .le 7, 3) := by decide +kernel
theorem dX7_plan_17 : decode cX7_plan 17 = .ok (.iconst 1, 1) := by decide +kernel
theorem dX7_plan_18 : decode cX7_plan 18 = .ok (.goto 35, 3) := by decide +kernel
theorem dX7_plan_21 : decode cX7_plan 21 = .ok (.iload_n 3, 1) := by decide +kernel
theorem dX7_plan_22 : decode cX7_plan 22 = .ok (.iconst 1, 1) := by decide +kernel
theorem dX7_plan_23 : decode cX7_plan 23 = .ok (.if_icmp .lt 25, 3) := by decide +kernel
theorem dX7_plan_26 : decode cX7_plan 26 = .ok (.iload_n 3, 1) := by decide +kernel
theorem dX7_plan_27 : decode cX7_plan 27 = .ok (.sipush 511, 3) := by decide +kernel
theorem dX7_plan_30 : decode cX7_plan 30 = .ok (.if_icmp .gt 18, 3) := by decide +kernel
theorem dX7_plan_33 : decode cX7_plan 33 = .ok (.iload 4, 2) := by decide +kernel
theorem dX7_plan_35 : decode cX7_plan 35 = .ok (.iconst 1, 1) := by decide +kernel
theorem dX7_plan_36 : decode cX7_plan 36 = .ok (.if_icmp .lt 12, 3) := by decide +kernel
theorem dX7_plan_39 : decode cX7_plan 39 = .ok (.iload 4, 2) := by decide +kernel
theorem dX7_plan_41 : decode cX7_plan 41 = .ok (.iload_n 3, 1) := by decide +kernel
theorem dX7_plan_42 : decode cX7_plan 42 = .ok (.invokestatic 145, 3) := by decide +kernel
theorem dX7_plan_45 : decode cX7_plan 45 = .ok (.if_icmp .le 7, 3) := by decide +kernel
theorem dX7_plan_48 : decode cX7_plan 48 = .ok (.iconst 2, 1) := by decide +kernel
theorem dX7_plan_49 : decode cX7_plan 49 = .ok (.goto 4, 3) := by decide +kernel
theorem dX7_plan_52 : decode cX7_plan 52 = .ok (.iconst 0, 1) := by decide +kernel
theorem dX7_plan_53 : decode cX7_plan 53 = .ok (.putfield 120, 3) := by decide +kernel
theorem dX7_plan_56 : decode cX7_plan 56 = .ok (.aload_n 0, 1) := by decide +kernel
theorem dX7_plan_57 : decode cX7_plan 57 = .ok (.getfield 120, 3) := by decide +kernel
theorem dX7_plan_60 : decode cX7_plan 60 = .ok (.ifCond .ne 26, 3) := by decide +kernel
theorem dX7_plan_63 : decode cX7_plan 63 = .ok (.aload_n 0, 1) := by decide +kernel
theorem dX7_plan_64 : decode cX7_plan 64 = .ok (.getfield 57, 3) := by decide +kernel
theorem dX7_plan_67 : decode cX7_plan 67 = .ok (.iconst 2, 1) := by decide +kernel
theorem dX7_plan_68 : decode cX7_plan 68 = .ok (.iload_n 1, 1) := by decide +kernel
theorem dX7_plan_69 : decode cX7_plan 69 = .ok (.imul, 1) := by decide +kernel
theorem dX7_plan_70 : decode cX7_plan 70 = .ok (.iload_n 2, 1) := by decide +kernel
theorem dX7_plan_71 : decode cX7_plan 71 = .ok (.iadd, 1) := by decide +kernel
theorem dX7_plan_72 : decode cX7_plan 72 = .ok (.iload_n 3, 1) := by decide +kernel
theorem dX7_plan_73 : decode cX7_plan 73 = .ok (.iastore, 1) := by decide +kernel
theorem dX7_plan_74 : decode cX7_plan 74 = .ok (.aload_n 0, 1) := by decide +kernel
theorem dX7_plan_75 : decode cX7_plan 75 = .ok (.getfield 60, 3) := by decide +kernel
theorem dX7_plan_78 : decode cX7_plan 78 = .ok (.iconst 2, 1) := by decide +kernel
theorem dX7_plan_79 : decode cX7_plan 79 = .ok (.iload_n 1, 1) := by decide +kernel
theorem dX7_plan_80 : decode cX7_plan 80 = .ok (.imul, 1) := by decide +kernel
theorem dX7_plan_81 : decode cX7_plan 81 = .ok (.iload_n 2, 1) := by decide +kernel
theorem dX7_plan_82 : decode cX7_plan 82 = .ok (.iadd, 1) := by decide +kernel
theorem dX7_plan_83 : decode cX7_plan 83 = .ok (.iload 4, 2) := by decide +kernel
theorem dX7_plan_85 : decode cX7_plan 85 = .ok (.iastore, 1) := by decide +kernel
theorem dX7_plan_86 : decode cX7_plan 86 = .ok (.return_, 1) := by decide +kernel
theorem dX7_work_0 : decode cX7_work 0 = .ok (.aload_n 0, 1) := by decide +kernel
theorem dX7_work_1 : decode cX7_work 1 = .ok (.getfield 69, 3) := by decide +kernel
theorem dX7_work_4 : decode cX7_work 4 = .ok (.iload_n 1, 1) := by decide +kernel
theorem dX7_work_5 : decode cX7_work 5 = .ok (.iaload, 1) := by decide +kernel
theorem dX7_work_6 : decode cX7_work 6 = .ok (.istore_n 2, 1) := by decide +kernel
theorem dX7_work_7 : decode cX7_work 7 = .ok (.aload_n 0, 1) := by decide +kernel
theorem dX7_work_8 : decode cX7_work 8 = .ok (.getfield 99, 3) := by decide +kernel
theorem dX7_work_11 : decode cX7_work 11 = .ok (.iload_n 2, 1) := by decide +kernel
theorem dX7_work_12 : decode cX7_work 12 = .ok (.laload, 1) := by decide +kernel
theorem dX7_work_13 : decode cX7_work 13 = .ok (.lstore_n 3, 1) := by decide +kernel
theorem dX7_work_14 : decode cX7_work 14 = .ok (.iconst 0, 1) := by decide +kernel
theorem dX7_work_15 : decode cX7_work 15 = .ok (.istore 5, 2) := by decide +kernel
theorem dX7_work_17 : decode cX7_work 17 = .ok (.iconst 1, 1) := by decide +kernel
theorem dX7_work_18 : decode cX7_work 18 = .ok (.istore 6, 2) := by decide +kernel
theorem dX7_work_20 : decode cX7_work 20 = .ok (.lload_n 3, 1) := by decide +kernel
theorem dX7_work_21 : decode cX7_work 21 = .ok (.lstore 7, 2) := by decide +kernel
theorem dX7_work_23 : decode cX7_work 23 = .ok (.aload_n 0, 1) := by decide +kernel
theorem dX7_work_24 : decode cX7_work 24 = .ok (.getfield 96, 3) := by decide +kernel
theorem dX7_work_27 : decode cX7_work 27 = .ok (.iload_n 2, 1) := by decide +kernel
theorem dX7_work_28 : decode cX7_work 28 = .ok (.iaload, 1) := by decide +kernel
theorem dX7_work_29 : decode cX7_work 29 = .ok (.tableswitch 152 0 5 #[39, 45, 56, 59, 97, 123], 39) := by decide +kernel
theorem dX7_work_68 : decode cX7_work 68 = .ok (.iconst 0, 1) := by decide +kernel
theorem dX7_work_69 : decode cX7_work 69 = .ok (.istore 6, 2) := by decide +kernel
theorem dX7_work_71 : decode cX7_work 71 = .ok (.goto 137, 3) := by decide +kernel
theorem dX7_work_74 : decode cX7_work 74 = .ok (.aload_n 0, 1) := by decide +kernel
theorem dX7_work_75 : decode cX7_work 75 = .ok (.getfield 81, 3) := by decide +kernel
theorem dX7_work_78 : decode cX7_work 78 = .ok (.iload_n 1, 1) := by decide +kernel
theorem dX7_work_79 : decode cX7_work 79 = .ok (.baload, 1) := by decide +kernel
theorem dX7_work_80 : decode cX7_work 80 = .ok (.istore 5, 2) := by decide +kernel
theorem dX7_work_82 : decode cX7_work 82 = .ok (.goto 126, 3) := by decide +kernel
theorem dX7_work_85 : decode cX7_work 85 = .ok (.goto 123, 3) := by decide +kernel
theorem dX7_work_88 : decode cX7_work 88 = .ok (.aload_n 0, 1) := by decide +kernel
theorem dX7_work_89 : decode cX7_work 89 = .ok (.getfield 81, 3) := by decide +kernel
theorem dX7_work_92 : decode cX7_work 92 = .ok (.iload_n 1, 1) := by decide +kernel
theorem dX7_work_93 : decode cX7_work 93 = .ok (.baload, 1) := by decide +kernel
theorem dX7_work_94 : decode cX7_work 94 = .ok (.ifCond .eq 17, 3) := by decide +kernel
theorem dX7_work_97 : decode cX7_work 97 = .ok (.aload_n 0, 1) := by decide +kernel
theorem dX7_work_98 : decode cX7_work 98 = .ok (.getfield 84, 3) := by decide +kernel
theorem dX7_work_101 : decode cX7_work 101 = .ok (.iload_n 1, 1) := by decide +kernel
theorem dX7_work_102 : decode cX7_work 102 = .ok (.iaload, 1) := by decide +kernel
theorem dX7_work_103 : decode cX7_work 103 = .ok (.lload_n 3, 1) := by decide +kernel
theorem dX7_work_104 : decode cX7_work 104 = .ok (.bipush 32, 2) := by decide +kernel
theorem dX7_work_106 : decode cX7_work 106 = .ok (.lshr, 1) := by decide +kernel
theorem dX7_work_107 : decode cX7_work 107 = .ok (.l2i, 1) := by decide +kernel
theorem dX7_work_108 : decode cX7_work 108 = .ok (.if_icmp .eq 7, 3) := by decide +kernel
theorem dX7_work_111 : decode cX7_work 111 = .ok (.iconst 1, 1) := by decide +kernel
theorem dX7_work_112 : decode cX7_work 112 = .ok (.goto 4, 3) := by decide +kernel
theorem dX7_work_115 : decode cX7_work 115 = .ok (.iconst 0, 1) := by decide +kernel
theorem dX7_work_116 : decode cX7_work 116 = .ok (.istore 5, 2) := by decide +kernel
theorem dX7_work_118 : decode cX7_work 118 = .ok (.lload_n 3, 1) := by decide +kernel
theorem dX7_work_119 : decode cX7_work 119 = .ok (.l2i, 1) := by decide +kernel
theorem dX7_work_120 : decode cX7_work 120 = .ok (.i2l, 1) := by decide +kernel
theorem dX7_work_121 : decode cX7_work 121 = .ok (.lstore 7, 2) := by decide +kernel
theorem dX7_work_123 : decode cX7_work 123 = .ok (.goto 85, 3) := by decide +kernel
theorem dX7_work_126 : decode cX7_work 126 = .ok (.aload_n 0, 1) := by decide +kernel
theorem dX7_work_127 : decode cX7_work 127 = .ok (.getfield 81, 3) := by decide +kernel
theorem dX7_work_130 : decode cX7_work 130 = .ok (.iload_n 1, 1) := by decide +kernel
theorem dX7_work_131 : decode cX7_work 131 = .ok (.baload, 1) := by decide +kernel
theorem dX7_work_132 : decode cX7_work 132 = .ok (.ifCond .eq 14, 3) := by decide +kernel
theorem dX7_work_135 : decode cX7_work 135 = .ok (.aload_n 0, 1) := by decide +kernel
theorem dX7_work_136 : decode cX7_work 136 = .ok (.getfield 87, 3) := by decide +kernel
theorem dX7_work_139 : decode cX7_work 139 = .ok (.iload_n 1, 1) := by decide +kernel
theorem dX7_work_140 : decode cX7_work 140 = .ok (.laload, 1) := by decide +kernel
theorem dX7_work_141 : decode cX7_work 141 = .ok (.lload_n 3, 1) := by decide +kernel
theorem dX7_work_142 : decode cX7_work 142 = .ok (.ladd, 1) := by decide +kernel
theorem dX7_work_143 : decode cX7_work 143 = .ok (.goto 4, 3) := by decide +kernel
theorem dX7_work_146 : decode cX7_work 146 = .ok (.lload_n 3, 1) := by decide +kernel
theorem dX7_work_147 : decode cX7_work 147 = .ok (.lstore 7, 2) := by decide +kernel
theorem dX7_work_149 : decode cX7_work 149 = .ok (.goto 59, 3) := by decide +kernel
theorem dX7_work_152 : decode cX7_work 152 = .ok (.aload_n 0, 1) := by decide +kernel
theorem dX7_work_153 : decode cX7_work 153 = .ok (.getfield 81, 3) := by decide +kernel
theorem dX7_work_156 : decode cX7_work 156 = .ok (.iload_n 1, 1) := by decide +kernel
theorem dX7_work_157 : decode cX7_work 157 = .ok (.baload, 1) := by decide +kernel
theorem dX7_work_158 : decode cX7_work 158 = .ok (.ifCond .ne 7, 3) := by decide +kernel
theorem dX7_work_161 : decode cX7_work 161 = .ok (.iconst 1, 1) := by decide +kernel
theorem dX7_work_162 : decode cX7_work 162 = .ok (.goto 4, 3) := by decide +kernel
theorem dX7_work_165 : decode cX7_work 165 = .ok (.iconst 0, 1) := by decide +kernel
theorem dX7_work_166 : decode cX7_work 166 = .ok (.istore 5, 2) := by decide +kernel
theorem dX7_work_168 : decode cX7_work 168 = .ok (.iconst 0, 1) := by decide +kernel
theorem dX7_work_169 : decode cX7_work 169 = .ok (.istore 6, 2) := by decide +kernel
theorem dX7_work_171 : decode cX7_work 171 = .ok (.aload_n 0, 1) := by decide +kernel
theorem dX7_work_172 : decode cX7_work 172 = .ok (.getfield 81, 3) := by decide +kernel
theorem dX7_work_175 : decode cX7_work 175 = .ok (.iload_n 1, 1) := by decide +kernel
theorem dX7_work_176 : decode cX7_work 176 = .ok (.iconst 0, 1) := by decide +kernel
theorem dX7_work_177 : decode cX7_work 177 = .ok (.bastore, 1) := by decide +kernel
theorem dX7_work_178 : decode cX7_work 178 = .ok (.goto 30, 3) := by decide +kernel
theorem dX7_work_181 : decode cX7_work 181 = .ok (.aload_n 0, 1) := by decide +kernel
theorem dX7_work_182 : decode cX7_work 182 = .ok (.getfield 81, 3) := by decide +kernel
theorem dX7_work_185 : decode cX7_work 185 = .ok (.iload_n 1, 1) := by decide +kernel
theorem dX7_work_186 : decode cX7_work 186 = .ok (.baload, 1) := by decide +kernel
theorem dX7_work_187 : decode cX7_work 187 = .ok (.ifCond .eq 18, 3) := by decide +kernel
theorem dX7_work_190 : decode cX7_work 190 = .ok (.aload_n 0, 1) := by decide +kernel
theorem dX7_work_191 : decode cX7_work 191 = .ok (.getfield 87, 3) := by decide +kernel
theorem dX7_work_194 : decode cX7_work 194 = .ok (.iload_n 1, 1) := by decide +kernel
theorem dX7_work_195 : decode cX7_work 195 = .ok (.laload, 1) := by decide +kernel
theorem dX7_work_196 : decode cX7_work 196 = .ok (.lload_n 3, 1) := by decide +kernel
theorem dX7_work_197 : decode cX7_work 197 = .ok (.lcmp, 1) := by decide +kernel
theorem dX7_work_198 : decode cX7_work 198 = .ok (.ifCond .lt 7, 3) := by decide +kernel
theorem dX7_work_201 : decode cX7_work 201 = .ok (.iconst 1, 1) := by decide +kernel
theorem dX7_work_202 : decode cX7_work 202 = .ok (.goto 4, 3) := by decide +kernel
theorem dX7_work_205 : decode cX7_work 205 = .ok (.iconst 0, 1) := by decide +kernel
theorem dX7_work_206 : decode cX7_work 206 = .ok (.istore 5, 2) := by decide +kernel
theorem dX7_work_208 : decode cX7_work 208 = .ok (.aload_n 0, 1) := by decide +kernel
theorem dX7_work_209 : decode cX7_work 209 = .ok (.getfield 90, 3) := by decide +kernel
theorem dX7_work_212 : decode cX7_work 212 = .ok (.iload_n 1, 1) := by decide +kernel
theorem dX7_work_213 : decode cX7_work 213 = .ok (.iload 5, 2) := by decide +kernel
theorem dX7_work_215 : decode cX7_work 215 = .ok (.bastore, 1) := by decide +kernel
theorem dX7_work_216 : decode cX7_work 216 = .ok (.iload 6, 2) := by decide +kernel
theorem dX7_work_218 : decode cX7_work 218 = .ok (.ifCond .eq 50, 3) := by decide +kernel
theorem dX7_work_221 : decode cX7_work 221 = .ok (.iload 5, 2) := by decide +kernel
theorem dX7_work_223 : decode cX7_work 223 = .ok (.ifCond .ne 45, 3) := by decide +kernel
theorem dX7_work_226 : decode cX7_work 226 = .ok (.aload_n 0, 1) := by decide +kernel
theorem dX7_work_227 : decode cX7_work 227 = .ok (.getfield 84, 3) := by decide +kernel
theorem dX7_work_230 : decode cX7_work 230 = .ok (.iload_n 1, 1) := by decide +kernel
theorem dX7_work_231 : decode cX7_work 231 = .ok (.aload_n 0, 1) := by decide +kernel
theorem dX7_work_232 : decode cX7_work 232 = .ok (.getfield 81, 3) := by decide +kernel
theorem dX7_work_235 : decode cX7_work 235 = .ok (.iload_n 1, 1) := by decide +kernel
theorem dX7_work_236 : decode cX7_work 236 = .ok (.baload, 1) := by decide +kernel
theorem dX7_work_237 : decode cX7_work 237 = .ok (.ifCond .eq 14, 3) := by decide +kernel
theorem dX7_work_240 : decode cX7_work 240 = .ok (.aload_n 0, 1) := by decide +kernel
theorem dX7_work_241 : decode cX7_work 241 = .ok (.getfield 84, 3) := by decide +kernel
theorem dX7_work_244 : decode cX7_work 244 = .ok (.iload_n 1, 1) := by decide +kernel
theorem dX7_work_245 : decode cX7_work 245 = .ok (.iaload, 1) := by decide +kernel
theorem dX7_work_246 : decode cX7_work 246 = .ok (.iconst 1, 1) := by decide +kernel
theorem dX7_work_247 : decode cX7_work 247 = .ok (.iadd, 1) := by decide +kernel
theorem dX7_work_248 : decode cX7_work 248 = .ok (.goto 4, 3) := by decide +kernel
theorem dX7_work_251 : decode cX7_work 251 = .ok (.iconst 1, 1) := by decide +kernel
theorem dX7_work_252 : decode cX7_work 252 = .ok (.iastore, 1) := by decide +kernel
theorem dX7_work_253 : decode cX7_work 253 = .ok (.aload_n 0, 1) := by decide +kernel
theorem dX7_work_254 : decode cX7_work 254 = .ok (.getfield 87, 3) := by decide +kernel
theorem dX7_work_257 : decode cX7_work 257 = .ok (.iload_n 1, 1) := by decide +kernel
theorem dX7_work_258 : decode cX7_work 258 = .ok (.lload 7, 2) := by decide +kernel
theorem dX7_work_260 : decode cX7_work 260 = .ok (.lastore, 1) := by decide +kernel
theorem dX7_work_261 : decode cX7_work 261 = .ok (.aload_n 0, 1) := by decide +kernel
theorem dX7_work_262 : decode cX7_work 262 = .ok (.getfield 81, 3) := by decide +kernel
theorem dX7_work_265 : decode cX7_work 265 = .ok (.iload_n 1, 1) := by decide +kernel
theorem dX7_work_266 : decode cX7_work 266 = .ok (.iconst 1, 1) := by decide +kernel
theorem dX7_work_267 : decode cX7_work 267 = .ok (.bastore, 1) := by decide +kernel
theorem dX7_work_268 : decode cX7_work 268 = .ok (.return_, 1) := by decide +kernel
set_option maxRecDepth 20000 in
theorem ggX7_prepared_X7_send : GoodIn wsX7_prepared wsX7_send := goodIn_r _ [11, 12, 13, 14, 15, 16, 17, 18, 19, 20, 25, 26, 27, 28, 29, 30, 31, 32, 33, 34, 35, 36, 37, 38, 39, 40, 41, 42, 43, 44, 45, 46, 47, 48, 49, 50, 51, 52, 53, 54, 55, 56, 57, 58, 59, 60, 61, 62, 63] (by decide +kernel) (by decide +kernel)
set_option maxRecDepth 20000 in
theorem gX7_prepared_X7_send : GoodIn wsX7_prepared (wsV RX7 137 RX7 yX7_send wsX7_send) := goodIn_app (goodIn_of _ (by decide +kernel)) ggX7_prepared_X7_send
set_option maxRecDepth 20000 in
theorem ggX7_prepared_X7_refuse : GoodIn wsX7_prepared wsX7_refuse := goodIn_r _ [24, 2, 3, 7, 8, 9, 10, 11, 12, 13, 14, 15, 16, 17, 18, 19, 20, 25, 26, 27, 28, 29, 30, 31, 32, 33, 34, 35, 36, 37, 38, 39, 40, 41, 42, 43, 44, 45, 46, 47, 48, 49, 50, 51, 52, 53, 54, 55, 56, 57, 58, 59, 60, 61, 62, 63] (by decide +kernel) (by decide +kernel)
set_option maxRecDepth 20000 in
theorem gX7_prepared_X7_refuse : GoodIn wsX7_prepared (wsV RX7 149 RX7 yX7_refuse wsX7_refuse) := goodIn_app (goodIn_of _ (by decide +kernel)) ggX7_prepared_X7_refuse
theorem dX7_prepared_0 : decode cX7_prepared 0 = .ok (.iconst 4, 1) := by decide +kernel
theorem dX7_prepared_1 : decode cX7_prepared 1 = .ok (.iload_n 2, 1) := by decide +kernel
theorem dX7_prepared_2 : decode cX7_prepared 2 = .ok (.imul, 1) := by decide +kernel
theorem dX7_prepared_3 : decode cX7_prepared 3 = .ok (.aload_n 0, 1) := by decide +kernel
theorem dX7_prepared_4 : decode cX7_prepared 4 = .ok (.getfield 93, 3) := by decide +kernel
theorem dX7_prepared_7 : decode cX7_prepared 7 = .ok (.iload_n 3, 1) := by decide +kernel
theorem dX7_prepared_8 : decode cX7_prepared 8 = .ok (.iaload, 1) := by decide +kernel
theorem dX7_prepared_9 : decode cX7_prepared 9 = .ok (.iadd, 1) := by decide +kernel
theorem dX7_prepared_10 : decode cX7_prepared 10 = .ok (.istore 5, 2) := by decide +kernel
theorem dX7_prepared_12 : decode cX7_prepared 12 = .ok (.iload 4, 2) := by decide +kernel
theorem dX7_prepared_14 : decode cX7_prepared 14 = .ok (.aload_n 0, 1) := by decide +kernel
theorem dX7_prepared_15 : decode cX7_prepared 15 = .ok (.getfield 39, 3) := by decide +kernel
theorem dX7_prepared_18 : decode cX7_prepared 18 = .ok (.iload 5, 2) := by decide +kernel
theorem dX7_prepared_20 : decode cX7_prepared 20 = .ok (.iaload, 1) := by decide +kernel
theorem dX7_prepared_21 : decode cX7_prepared 21 = .ok (.if_icmp .le 63, 3) := by decide +kernel
theorem dX7_prepared_24 : decode cX7_prepared 24 = .ok (.iload 4, 2) := by decide +kernel
theorem dX7_prepared_26 : decode cX7_prepared 26 = .ok (.aload_n 0, 1) := by decide +kernel
theorem dX7_prepared_27 : decode cX7_prepared 27 = .ok (.getfield 42, 3) := by decide +kernel
theorem dX7_prepared_30 : decode cX7_prepared 30 = .ok (.iload 5, 2) := by decide +kernel
theorem dX7_prepared_32 : decode cX7_prepared 32 = .ok (.iaload, 1) := by decide +kernel
theorem dX7_prepared_33 : decode cX7_prepared 33 = .ok (.if_icmp .le 51, 3) := by decide +kernel
theorem dX7_prepared_36 : decode cX7_prepared 36 = .ok (.aload_n 0, 1) := by decide +kernel
theorem dX7_prepared_37 : decode cX7_prepared 37 = .ok (.getfield 39, 3) := by decide +kernel
theorem dX7_prepared_40 : decode cX7_prepared 40 = .ok (.iload 5, 2) := by decide +kernel
theorem dX7_prepared_42 : decode cX7_prepared 42 = .ok (.iload 4, 2) := by decide +kernel
theorem dX7_prepared_44 : decode cX7_prepared 44 = .ok (.iastore, 1) := by decide +kernel
theorem dX7_prepared_45 : decode cX7_prepared 45 = .ok (.aload_n 0, 1) := by decide +kernel
theorem dX7_prepared_46 : decode cX7_prepared 46 = .ok (.iconst 1, 1) := by decide +kernel
theorem dX7_prepared_47 : decode cX7_prepared 47 = .ok (.iload_n 1, 1) := by decide +kernel
theorem dX7_prepared_48 : decode cX7_prepared 48 = .ok (.iload_n 2, 1) := by decide +kernel
theorem dX7_prepared_49 : decode cX7_prepared 49 = .ok (.iload_n 3, 1) := by decide +kernel
theorem dX7_prepared_50 : decode cX7_prepared 50 = .ok (.aload_n 0, 1) := by decide +kernel
theorem dX7_prepared_51 : decode cX7_prepared 51 = .ok (.getfield 42, 3) := by decide +kernel
theorem dX7_prepared_54 : decode cX7_prepared 54 = .ok (.iload 5, 2) := by decide +kernel
theorem dX7_prepared_56 : decode cX7_prepared 56 = .ok (.iaload, 1) := by decide +kernel
theorem dX7_prepared_57 : decode cX7_prepared 57 = .ok (.aload_n 0, 1) := by decide +kernel
theorem dX7_prepared_58 : decode cX7_prepared 58 = .ok (.getfield 45, 3) := by decide +kernel
theorem dX7_prepared_61 : decode cX7_prepared 61 = .ok (.iload 5, 2) := by decide +kernel
theorem dX7_prepared_63 : decode cX7_prepared 63 = .ok (.baload, 1) := by decide +kernel
theorem dX7_prepared_64 : decode cX7_prepared 64 = .ok (.aload_n 0, 1) := by decide +kernel
theorem dX7_prepared_65 : decode cX7_prepared 65 = .ok (.getfield 48, 3) := by decide +kernel
theorem dX7_prepared_68 : decode cX7_prepared 68 = .ok (.iload 5, 2) := by decide +kernel
theorem dX7_prepared_70 : decode cX7_prepared 70 = .ok (.iaload, 1) := by decide +kernel
theorem dX7_prepared_71 : decode cX7_prepared 71 = .ok (.aload_n 0, 1) := by decide +kernel
theorem dX7_prepared_72 : decode cX7_prepared 72 = .ok (.getfield 51, 3) := by decide +kernel
theorem dX7_prepared_75 : decode cX7_prepared 75 = .ok (.iload 5, 2) := by decide +kernel
theorem dX7_prepared_77 : decode cX7_prepared 77 = .ok (.laload, 1) := by decide +kernel
theorem dX7_prepared_78 : decode cX7_prepared 78 = .ok (.invokevirtual 137, 3) := by decide +kernel
theorem dX7_prepared_81 : decode cX7_prepared 81 = .ok (.goto 12, 3) := by decide +kernel
theorem dX7_prepared_84 : decode cX7_prepared 84 = .ok (.aload_n 0, 1) := by decide +kernel
theorem dX7_prepared_85 : decode cX7_prepared 85 = .ok (.iload_n 1, 1) := by decide +kernel
theorem dX7_prepared_86 : decode cX7_prepared 86 = .ok (.iload_n 2, 1) := by decide +kernel
theorem dX7_prepared_87 : decode cX7_prepared 87 = .ok (.iload_n 3, 1) := by decide +kernel
theorem dX7_prepared_88 : decode cX7_prepared 88 = .ok (.iload 5, 2) := by decide +kernel
theorem dX7_prepared_90 : decode cX7_prepared 90 = .ok (.invokevirtual 149, 3) := by decide +kernel
theorem dX7_prepared_93 : decode cX7_prepared 93 = .ok (.return_, 1) := by decide +kernel
set_option maxRecDepth 20000 in
theorem ggX7_refuse_X7_send : GoodIn wsX7_refuse wsX7_send := goodIn_r _ [7, 8, 9, 10, 11, 12, 13, 14, 15, 16, 17, 18, 19, 20, 21, 22, 23, 24, 25, 26, 27, 28, 29, 30, 31, 32, 33, 34, 35, 36, 37, 38, 39, 40, 41, 42, 43, 44, 45, 46, 47, 48, 49, 50, 51, 52, 53, 54, 55] (by decide +kernel) (by decide +kernel)
set_option maxRecDepth 20000 in
theorem gX7_refuse_X7_send : GoodIn wsX7_refuse (wsV RX7 137 RX7 yX7_send wsX7_send) := goodIn_app (goodIn_of _ (by decide +kernel)) ggX7_refuse_X7_send
theorem dX7_refuse_0 : decode cX7_refuse 0 = .ok (.aload_n 0, 1) := by decide +kernel
theorem dX7_refuse_1 : decode cX7_refuse 1 = .ok (.iconst 4, 1) := by decide +kernel
theorem dX7_refuse_2 : decode cX7_refuse 2 = .ok (.iload_n 1, 1) := by decide +kernel
theorem dX7_refuse_3 : decode cX7_refuse 3 = .ok (.iload_n 2, 1) := by decide +kernel
theorem dX7_refuse_4 : decode cX7_refuse 4 = .ok (.iload_n 3, 1) := by decide +kernel
theorem dX7_refuse_5 : decode cX7_refuse 5 = .ok (.aload_n 0, 1) := by decide +kernel
theorem dX7_refuse_6 : decode cX7_refuse 6 = .ok (.getfield 39, 3) := by decide +kernel
theorem dX7_refuse_9 : decode cX7_refuse 9 = .ok (.iload 4, 2) := by decide +kernel
theorem dX7_refuse_11 : decode cX7_refuse 11 = .ok (.iaload, 1) := by decide +kernel
theorem dX7_refuse_12 : decode cX7_refuse 12 = .ok (.aload_n 0, 1) := by decide +kernel
theorem dX7_refuse_13 : decode cX7_refuse 13 = .ok (.getfield 42, 3) := by decide +kernel
theorem dX7_refuse_16 : decode cX7_refuse 16 = .ok (.iload 4, 2) := by decide +kernel
theorem dX7_refuse_18 : decode cX7_refuse 18 = .ok (.iaload, 1) := by decide +kernel
theorem dX7_refuse_19 : decode cX7_refuse 19 = .ok (.if_icmp .le 13, 3) := by decide +kernel
theorem dX7_refuse_22 : decode cX7_refuse 22 = .ok (.aload_n 0, 1) := by decide +kernel
theorem dX7_refuse_23 : decode cX7_refuse 23 = .ok (.getfield 39, 3) := by decide +kernel
theorem dX7_refuse_26 : decode cX7_refuse 26 = .ok (.iload 4, 2) := by decide +kernel
theorem dX7_refuse_28 : decode cX7_refuse 28 = .ok (.iaload, 1) := by decide +kernel
theorem dX7_refuse_29 : decode cX7_refuse 29 = .ok (.goto 10, 3) := by decide +kernel
theorem dX7_refuse_32 : decode cX7_refuse 32 = .ok (.aload_n 0, 1) := by decide +kernel
theorem dX7_refuse_33 : decode cX7_refuse 33 = .ok (.getfield 42, 3) := by decide +kernel
theorem dX7_refuse_36 : decode cX7_refuse 36 = .ok (.iload 4, 2) := by decide +kernel
theorem dX7_refuse_38 : decode cX7_refuse 38 = .ok (.iaload, 1) := by decide +kernel
theorem dX7_refuse_39 : decode cX7_refuse 39 = .ok (.iconst 0, 1) := by decide +kernel
theorem dX7_refuse_40 : decode cX7_refuse 40 = .ok (.iconst 0, 1) := by decide +kernel
theorem dX7_refuse_41 : decode cX7_refuse 41 = .ok (.lconst 0, 1) := by decide +kernel
theorem dX7_refuse_42 : decode cX7_refuse 42 = .ok (.invokevirtual 137, 3) := by decide +kernel
theorem dX7_refuse_45 : decode cX7_refuse 45 = .ok (.return_, 1) := by decide +kernel
set_option maxRecDepth 20000 in
theorem ggX7_promised_X7_bits : GoodIn wsX7_promised wsX7_bits := goodIn_r _ [14] (by decide +kernel) (by decide +kernel)
set_option maxRecDepth 20000 in
theorem gX7_promised_X7_bits : GoodIn wsX7_promised (va_wsS RX7 145 yX7_bits wsX7_bits) := goodIn_app (goodIn_of _ (by decide +kernel)) ggX7_promised_X7_bits
set_option maxRecDepth 20000 in
theorem ggX7_promised_X7_work : GoodIn wsX7_promised wsX7_work := goodIn_r _ [18, 1, 19, 20, 5, 6, 7, 21, 35, 36, 37, 38, 39, 40, 41, 42, 43, 44, 45, 46, 47, 48, 49, 50, 51, 52, 53, 54, 55, 56, 57, 58, 59, 60, 61, 62, 63, 64, 65, 66, 67, 68, 69, 70, 71, 72, 73] (by decide +kernel) (by decide +kernel)
set_option maxRecDepth 20000 in
theorem gX7_promised_X7_work : GoodIn wsX7_promised (wsV RX7 153 RX7 yX7_work wsX7_work) := goodIn_app (goodIn_of _ (by decide +kernel)) ggX7_promised_X7_work
set_option maxRecDepth 20000 in
theorem ggX7_promised_X7_send : GoodIn wsX7_promised wsX7_send := goodIn_r _ [25, 26, 27, 28, 29, 30, 31, 32, 33, 34, 35, 36, 37, 38, 39, 40, 41, 42, 43, 44, 45, 46, 47, 48, 49, 50, 51, 52, 53, 54, 55, 56, 57, 58, 59, 60, 61, 62, 63, 64, 65, 66, 67, 68, 69, 70, 71, 72, 73] (by decide +kernel) (by decide +kernel)
set_option maxRecDepth 20000 in
theorem gX7_promised_X7_send : GoodIn wsX7_promised (wsV RX7 137 RX7 yX7_send wsX7_send) := goodIn_app (goodIn_of _ (by decide +kernel)) ggX7_promised_X7_send
theorem dX7_promised_0 : decode cX7_promised 0 = .ok (.aload_n 0, 1) := by decide +kernel
theorem dX7_promised_1 : decode cX7_promised 1 = .ok (.getfield 69, 3) := by decide +kernel
theorem dX7_promised_4 : decode cX7_promised 4 = .ok (.iload_n 1, 1) := by decide +kernel
theorem dX7_promised_5 : decode cX7_promised 5 = .ok (.iaload, 1) := by decide +kernel
theorem dX7_promised_6 : decode cX7_promised 6 = .ok (.iload_n 3, 1) := by decide +kernel
theorem dX7_promised_7 : decode cX7_promised 7 = .ok (.if_icmp .ne 26, 3) := by decide +kernel
theorem dX7_promised_10 : decode cX7_promised 10 = .ok (.aload_n 0, 1) := by decide +kernel
theorem dX7_promised_11 : decode cX7_promised 11 = .ok (.getfield 72, 3) := by decide +kernel
theorem dX7_promised_14 : decode cX7_promised 14 = .ok (.iload_n 1, 1) := by decide +kernel
theorem dX7_promised_15 : decode cX7_promised 15 = .ok (.baload, 1) := by decide +kernel
theorem dX7_promised_16 : decode cX7_promised 16 = .ok (.ifCond .ne 17, 3) := by decide +kernel
theorem dX7_promised_19 : decode cX7_promised 19 = .ok (.aload_n 0, 1) := by decide +kernel
theorem dX7_promised_20 : decode cX7_promised 20 = .ok (.getfield 75, 3) := by decide +kernel
theorem dX7_promised_23 : decode cX7_promised 23 = .ok (.iload_n 1, 1) := by decide +kernel
theorem dX7_promised_24 : decode cX7_promised 24 = .ok (.iaload, 1) := by decide +kernel
theorem dX7_promised_25 : decode cX7_promised 25 = .ok (.iload_n 2, 1) := by decide +kernel
theorem dX7_promised_26 : decode cX7_promised 26 = .ok (.ishr, 1) := by decide +kernel
theorem dX7_promised_27 : decode cX7_promised 27 = .ok (.iconst 1, 1) := by decide +kernel
theorem dX7_promised_28 : decode cX7_promised 28 = .ok (.iand, 1) := by decide +kernel
theorem dX7_promised_29 : decode cX7_promised 29 = .ok (.iconst 1, 1) := by decide +kernel
theorem dX7_promised_30 : decode cX7_promised 30 = .ok (.if_icmp .ne 4, 3) := by decide +kernel
theorem dX7_promised_33 : decode cX7_promised 33 = .ok (.return_, 1) := by decide +kernel
theorem dX7_promised_34 : decode cX7_promised 34 = .ok (.aload_n 0, 1) := by decide +kernel
theorem dX7_promised_35 : decode cX7_promised 35 = .ok (.getfield 75, 3) := by decide +kernel
theorem dX7_promised_38 : decode cX7_promised 38 = .ok (.iload_n 1, 1) := by decide +kernel
theorem dX7_promised_39 : decode cX7_promised 39 = .ok (.dup2, 1) := by decide +kernel
theorem dX7_promised_40 : decode cX7_promised 40 = .ok (.iaload, 1) := by decide +kernel
theorem dX7_promised_41 : decode cX7_promised 41 = .ok (.iconst 1, 1) := by decide +kernel
theorem dX7_promised_42 : decode cX7_promised 42 = .ok (.iload_n 2, 1) := by decide +kernel
theorem dX7_promised_43 : decode cX7_promised 43 = .ok (.ishl, 1) := by decide +kernel
theorem dX7_promised_44 : decode cX7_promised 44 = .ok (.ior, 1) := by decide +kernel
theorem dX7_promised_45 : decode cX7_promised 45 = .ok (.iastore, 1) := by decide +kernel
theorem dX7_promised_46 : decode cX7_promised 46 = .ok (.iload 4, 2) := by decide +kernel
theorem dX7_promised_48 : decode cX7_promised 48 = .ok (.aload_n 0, 1) := by decide +kernel
theorem dX7_promised_49 : decode cX7_promised 49 = .ok (.getfield 78, 3) := by decide +kernel
theorem dX7_promised_52 : decode cX7_promised 52 = .ok (.iload_n 1, 1) := by decide +kernel
theorem dX7_promised_53 : decode cX7_promised 53 = .ok (.iaload, 1) := by decide +kernel
theorem dX7_promised_54 : decode cX7_promised 54 = .ok (.if_icmp .le 35, 3) := by decide +kernel
theorem dX7_promised_57 : decode cX7_promised 57 = .ok (.aload_n 0, 1) := by decide +kernel
theorem dX7_promised_58 : decode cX7_promised 58 = .ok (.getfield 78, 3) := by decide +kernel
theorem dX7_promised_61 : decode cX7_promised 61 = .ok (.iload_n 1, 1) := by decide +kernel
theorem dX7_promised_62 : decode cX7_promised 62 = .ok (.iload 4, 2) := by decide +kernel
theorem dX7_promised_64 : decode cX7_promised 64 = .ok (.iastore, 1) := by decide +kernel
theorem dX7_promised_65 : decode cX7_promised 65 = .ok (.aload_n 0, 1) := by decide +kernel
theorem dX7_promised_66 : decode cX7_promised 66 = .ok (.getfield 81, 3) := by decide +kernel
theorem dX7_promised_69 : decode cX7_promised 69 = .ok (.iload_n 1, 1) := by decide +kernel
theorem dX7_promised_70 : decode cX7_promised 70 = .ok (.iload 5, 2) := by decide +kernel
theorem dX7_promised_72 : decode cX7_promised 72 = .ok (.bastore, 1) := by decide +kernel
theorem dX7_promised_73 : decode cX7_promised 73 = .ok (.aload_n 0, 1) := by decide +kernel
theorem dX7_promised_74 : decode cX7_promised 74 = .ok (.getfield 84, 3) := by decide +kernel
theorem dX7_promised_77 : decode cX7_promised 77 = .ok (.iload_n 1, 1) := by decide +kernel
theorem dX7_promised_78 : decode cX7_promised 78 = .ok (.iload 6, 2) := by decide +kernel
theorem dX7_promised_80 : decode cX7_promised 80 = .ok (.iastore, 1) := by decide +kernel
theorem dX7_promised_81 : decode cX7_promised 81 = .ok (.aload_n 0, 1) := by decide +kernel
theorem dX7_promised_82 : decode cX7_promised 82 = .ok (.getfield 87, 3) := by decide +kernel
theorem dX7_promised_85 : decode cX7_promised 85 = .ok (.iload_n 1, 1) := by decide +kernel
theorem dX7_promised_86 : decode cX7_promised 86 = .ok (.lload 7, 2) := by decide +kernel
theorem dX7_promised_88 : decode cX7_promised 88 = .ok (.lastore, 1) := by decide +kernel
theorem dX7_promised_89 : decode cX7_promised 89 = .ok (.aload_n 0, 1) := by decide +kernel
theorem dX7_promised_90 : decode cX7_promised 90 = .ok (.getfield 75, 3) := by decide +kernel
theorem dX7_promised_93 : decode cX7_promised 93 = .ok (.iload_n 1, 1) := by decide +kernel
theorem dX7_promised_94 : decode cX7_promised 94 = .ok (.iaload, 1) := by decide +kernel
theorem dX7_promised_95 : decode cX7_promised 95 = .ok (.invokestatic 145, 3) := by decide +kernel
theorem dX7_promised_98 : decode cX7_promised 98 = .ok (.aload_n 0, 1) := by decide +kernel
theorem dX7_promised_99 : decode cX7_promised 99 = .ok (.getfield 66, 3) := by decide +kernel
theorem dX7_promised_102 : decode cX7_promised 102 = .ok (.iconst 2, 1) := by decide +kernel
theorem dX7_promised_103 : decode cX7_promised 103 = .ok (.iload_n 1, 1) := by decide +kernel
theorem dX7_promised_104 : decode cX7_promised 104 = .ok (.imul, 1) := by decide +kernel
theorem dX7_promised_105 : decode cX7_promised 105 = .ok (.iaload, 1) := by decide +kernel
theorem dX7_promised_106 : decode cX7_promised 106 = .ok (.if_icmp .lt 90, 3) := by decide +kernel
theorem dX7_promised_109 : decode cX7_promised 109 = .ok (.aload_n 0, 1) := by decide +kernel
theorem dX7_promised_110 : decode cX7_promised 110 = .ok (.iload_n 1, 1) := by decide +kernel
theorem dX7_promised_111 : decode cX7_promised 111 = .ok (.invokevirtual 153, 3) := by decide +kernel
theorem dX7_promised_114 : decode cX7_promised 114 = .ok (.aload_n 0, 1) := by decide +kernel
theorem dX7_promised_115 : decode cX7_promised 115 = .ok (.getfield 72, 3) := by decide +kernel
theorem dX7_promised_118 : decode cX7_promised 118 = .ok (.iload_n 1, 1) := by decide +kernel
theorem dX7_promised_119 : decode cX7_promised 119 = .ok (.iconst 1, 1) := by decide +kernel
theorem dX7_promised_120 : decode cX7_promised 120 = .ok (.bastore, 1) := by decide +kernel
theorem dX7_promised_121 : decode cX7_promised 121 = .ok (.aload_n 0, 1) := by decide +kernel
theorem dX7_promised_122 : decode cX7_promised 122 = .ok (.getfield 75, 3) := by decide +kernel
theorem dX7_promised_125 : decode cX7_promised 125 = .ok (.iload_n 1, 1) := by decide +kernel
theorem dX7_promised_126 : decode cX7_promised 126 = .ok (.iconst 0, 1) := by decide +kernel
theorem dX7_promised_127 : decode cX7_promised 127 = .ok (.iastore, 1) := by decide +kernel
theorem dX7_promised_128 : decode cX7_promised 128 = .ok (.iconst 0, 1) := by decide +kernel
theorem dX7_promised_129 : decode cX7_promised 129 = .ok (.istore 9, 2) := by decide +kernel
theorem dX7_promised_131 : decode cX7_promised 131 = .ok (.iload 9, 2) := by decide +kernel
theorem dX7_promised_133 : decode cX7_promised 133 = .ok (.bipush 9, 2) := by decide +kernel
theorem dX7_promised_135 : decode cX7_promised 135 = .ok (.if_icmp .ge 61, 3) := by decide +kernel
theorem dX7_promised_138 : decode cX7_promised 138 = .ok (.aload_n 0, 1) := by decide +kernel
theorem dX7_promised_139 : decode cX7_promised 139 = .ok (.getfield 63, 3) := by decide +kernel
theorem dX7_promised_142 : decode cX7_promised 142 = .ok (.iconst 2, 1) := by decide +kernel
theorem dX7_promised_143 : decode cX7_promised 143 = .ok (.iload_n 1, 1) := by decide +kernel
theorem dX7_promised_144 : decode cX7_promised 144 = .ok (.imul, 1) := by decide +kernel
theorem dX7_promised_145 : decode cX7_promised 145 = .ok (.iconst 1, 1) := by decide +kernel
theorem dX7_promised_146 : decode cX7_promised 146 = .ok (.iadd, 1) := by decide +kernel
theorem dX7_promised_147 : decode cX7_promised 147 = .ok (.iaload, 1) := by decide +kernel
theorem dX7_promised_148 : decode cX7_promised 148 = .ok (.iload 9, 2) := by decide +kernel
theorem dX7_promised_150 : decode cX7_promised 150 = .ok (.ishr, 1) := by decide +kernel
theorem dX7_promised_151 : decode cX7_promised 151 = .ok (.iconst 1, 1) := by decide +kernel
theorem dX7_promised_152 : decode cX7_promised 152 = .ok (.iand, 1) := by decide +kernel
theorem dX7_promised_153 : decode cX7_promised 153 = .ok (.iconst 1, 1) := by decide +kernel
theorem dX7_promised_154 : decode cX7_promised 154 = .ok (.if_icmp .ne 36, 3) := by decide +kernel
theorem dX7_promised_157 : decode cX7_promised 157 = .ok (.aload_n 0, 1) := by decide +kernel
theorem dX7_promised_158 : decode cX7_promised 158 = .ok (.iconst 2, 1) := by decide +kernel
theorem dX7_promised_159 : decode cX7_promised 159 = .ok (.iload_n 1, 1) := by decide +kernel
theorem dX7_promised_160 : decode cX7_promised 160 = .ok (.iload 9, 2) := by decide +kernel
theorem dX7_promised_162 : decode cX7_promised 162 = .ok (.iload_n 3, 1) := by decide +kernel
theorem dX7_promised_163 : decode cX7_promised 163 = .ok (.aload_n 0, 1) := by decide +kernel
theorem dX7_promised_164 : decode cX7_promised 164 = .ok (.getfield 102, 3) := by decide +kernel
theorem dX7_promised_167 : decode cX7_promised 167 = .ok (.iload_n 3, 1) := by decide +kernel
theorem dX7_promised_168 : decode cX7_promised 168 = .ok (.iaload, 1) := by decide +kernel
theorem dX7_promised_169 : decode cX7_promised 169 = .ok (.aload_n 0, 1) := by decide +kernel
theorem dX7_promised_170 : decode cX7_promised 170 = .ok (.getfield 81, 3) := by decide +kernel
theorem dX7_promised_173 : decode cX7_promised 173 = .ok (.iload_n 1, 1) := by decide +kernel
theorem dX7_promised_174 : decode cX7_promised 174 = .ok (.baload, 1) := by decide +kernel
theorem dX7_promised_175 : decode cX7_promised 175 = .ok (.aload_n 0, 1) := by decide +kernel
theorem dX7_promised_176 : decode cX7_promised 176 = .ok (.getfield 84, 3) := by decide +kernel
theorem dX7_promised_179 : decode cX7_promised 179 = .ok (.iload_n 1, 1) := by decide +kernel
theorem dX7_promised_180 : decode cX7_promised 180 = .ok (.iaload, 1) := by decide +kernel
theorem dX7_promised_181 : decode cX7_promised 181 = .ok (.aload_n 0, 1) := by decide +kernel
theorem dX7_promised_182 : decode cX7_promised 182 = .ok (.getfield 87, 3) := by decide +kernel
theorem dX7_promised_185 : decode cX7_promised 185 = .ok (.iload_n 1, 1) := by decide +kernel
theorem dX7_promised_186 : decode cX7_promised 186 = .ok (.laload, 1) := by decide +kernel
theorem dX7_promised_187 : decode cX7_promised 187 = .ok (.invokevirtual 137, 3) := by decide +kernel
theorem dX7_promised_190 : decode cX7_promised 190 = .ok (.iinc 9 1, 3) := by decide +kernel
theorem dX7_promised_193 : decode cX7_promised 193 = .ok (.goto (-62), 3) := by decide +kernel
theorem dX7_promised_196 : decode cX7_promised 196 = .ok (.return_, 1) := by decide +kernel
set_option maxRecDepth 20000 in
theorem ggX7_accept_X7_send : GoodIn wsX7_accept wsX7_send := goodIn_r _ [11, 12, 13, 14, 15, 16, 17, 18, 19, 20, 25, 26, 27, 28, 29, 30, 31, 32, 33, 34, 35, 36, 37, 38, 39, 40, 41, 42, 43, 44, 45, 46, 47, 48, 49, 50, 51, 52, 53, 54, 55, 56, 57, 58, 59, 60, 61, 62, 63] (by decide +kernel) (by decide +kernel)
set_option maxRecDepth 20000 in
theorem gX7_accept_X7_send : GoodIn wsX7_accept (wsV RX7 137 RX7 yX7_send wsX7_send) := goodIn_app (goodIn_of _ (by decide +kernel)) ggX7_accept_X7_send
set_option maxRecDepth 20000 in
theorem ggX7_accept_X7_refuse : GoodIn wsX7_accept wsX7_refuse := goodIn_r _ [24, 2, 3, 7, 8, 9, 10, 11, 12, 13, 14, 15, 16, 17, 18, 19, 20, 25, 26, 27, 28, 29, 30, 31, 32, 33, 34, 35, 36, 37, 38, 39, 40, 41, 42, 43, 44, 45, 46, 47, 48, 49, 50, 51, 52, 53, 54, 55, 56, 57, 58, 59, 60, 61, 62, 63] (by decide +kernel) (by decide +kernel)
set_option maxRecDepth 20000 in
theorem gX7_accept_X7_refuse : GoodIn wsX7_accept (wsV RX7 149 RX7 yX7_refuse wsX7_refuse) := goodIn_app (goodIn_of _ (by decide +kernel)) ggX7_accept_X7_refuse
theorem dX7_accept_0 : decode cX7_accept 0 = .ok (.iconst 4, 1) := by decide +kernel
theorem dX7_accept_1 : decode cX7_accept 1 = .ok (.iload_n 2, 1) := by decide +kernel
theorem dX7_accept_2 : decode cX7_accept 2 = .ok (.imul, 1) := by decide +kernel
theorem dX7_accept_3 : decode cX7_accept 3 = .ok (.aload_n 0, 1) := by decide +kernel
theorem dX7_accept_4 : decode cX7_accept 4 = .ok (.getfield 93, 3) := by decide +kernel
theorem dX7_accept_7 : decode cX7_accept 7 = .ok (.iload_n 3, 1) := by decide +kernel
theorem dX7_accept_8 : decode cX7_accept 8 = .ok (.iaload, 1) := by decide +kernel
theorem dX7_accept_9 : decode cX7_accept 9 = .ok (.iadd, 1) := by decide +kernel
theorem dX7_accept_10 : decode cX7_accept 10 = .ok (.istore 9, 2) := by decide +kernel
theorem dX7_accept_12 : decode cX7_accept 12 = .ok (.iload 4, 2) := by decide +kernel
theorem dX7_accept_14 : decode cX7_accept 14 = .ok (.aload_n 0, 1) := by decide +kernel
theorem dX7_accept_15 : decode cX7_accept 15 = .ok (.getfield 39, 3) := by decide +kernel
theorem dX7_accept_18 : decode cX7_accept 18 = .ok (.iload 9, 2) := by decide +kernel
theorem dX7_accept_20 : decode cX7_accept 20 = .ok (.iaload, 1) := by decide +kernel
theorem dX7_accept_21 : decode cX7_accept 21 = .ok (.if_icmp .lt 75, 3) := by decide +kernel
theorem dX7_accept_24 : decode cX7_accept 24 = .ok (.iload 4, 2) := by decide +kernel
theorem dX7_accept_26 : decode cX7_accept 26 = .ok (.aload_n 0, 1) := by decide +kernel
theorem dX7_accept_27 : decode cX7_accept 27 = .ok (.getfield 42, 3) := by decide +kernel
theorem dX7_accept_30 : decode cX7_accept 30 = .ok (.iload 9, 2) := by decide +kernel
theorem dX7_accept_32 : decode cX7_accept 32 = .ok (.iaload, 1) := by decide +kernel
theorem dX7_accept_33 : decode cX7_accept 33 = .ok (.if_icmp .lt 63, 3) := by decide +kernel
theorem dX7_accept_36 : decode cX7_accept 36 = .ok (.aload_n 0, 1) := by decide +kernel
theorem dX7_accept_37 : decode cX7_accept 37 = .ok (.getfield 42, 3) := by decide +kernel
theorem dX7_accept_40 : decode cX7_accept 40 = .ok (.iload 9, 2) := by decide +kernel
theorem dX7_accept_42 : decode cX7_accept 42 = .ok (.iload 4, 2) := by decide +kernel
theorem dX7_accept_44 : decode cX7_accept 44 = .ok (.iastore, 1) := by decide +kernel
theorem dX7_accept_45 : decode cX7_accept 45 = .ok (.aload_n 0, 1) := by decide +kernel
theorem dX7_accept_46 : decode cX7_accept 46 = .ok (.getfield 45, 3) := by decide +kernel
theorem dX7_accept_49 : decode cX7_accept 49 = .ok (.iload 9, 2) := by decide +kernel
theorem dX7_accept_51 : decode cX7_accept 51 = .ok (.iload 5, 2) := by decide +kernel
theorem dX7_accept_53 : decode cX7_accept 53 = .ok (.bastore, 1) := by decide +kernel
theorem dX7_accept_54 : decode cX7_accept 54 = .ok (.aload_n 0, 1) := by decide +kernel
theorem dX7_accept_55 : decode cX7_accept 55 = .ok (.getfield 48, 3) := by decide +kernel
theorem dX7_accept_58 : decode cX7_accept 58 = .ok (.iload 9, 2) := by decide +kernel
theorem dX7_accept_60 : decode cX7_accept 60 = .ok (.iload 6, 2) := by decide +kernel
theorem dX7_accept_62 : decode cX7_accept 62 = .ok (.iastore, 1) := by decide +kernel
theorem dX7_accept_63 : decode cX7_accept 63 = .ok (.aload_n 0, 1) := by decide +kernel
theorem dX7_accept_64 : decode cX7_accept 64 = .ok (.getfield 51, 3) := by decide +kernel
theorem dX7_accept_67 : decode cX7_accept 67 = .ok (.iload 9, 2) := by decide +kernel
theorem dX7_accept_69 : decode cX7_accept 69 = .ok (.lload 7, 2) := by decide +kernel
theorem dX7_accept_71 : decode cX7_accept 71 = .ok (.lastore, 1) := by decide +kernel
theorem dX7_accept_72 : decode cX7_accept 72 = .ok (.aload_n 0, 1) := by decide +kernel
theorem dX7_accept_73 : decode cX7_accept 73 = .ok (.getfield 39, 3) := by decide +kernel
theorem dX7_accept_76 : decode cX7_accept 76 = .ok (.iload 9, 2) := by decide +kernel
theorem dX7_accept_78 : decode cX7_accept 78 = .ok (.iconst 0, 1) := by decide +kernel
theorem dX7_accept_79 : decode cX7_accept 79 = .ok (.iastore, 1) := by decide +kernel
theorem dX7_accept_80 : decode cX7_accept 80 = .ok (.aload_n 0, 1) := by decide +kernel
theorem dX7_accept_81 : decode cX7_accept 81 = .ok (.iconst 3, 1) := by decide +kernel
theorem dX7_accept_82 : decode cX7_accept 82 = .ok (.iload_n 1, 1) := by decide +kernel
theorem dX7_accept_83 : decode cX7_accept 83 = .ok (.iload_n 2, 1) := by decide +kernel
theorem dX7_accept_84 : decode cX7_accept 84 = .ok (.iload_n 3, 1) := by decide +kernel
theorem dX7_accept_85 : decode cX7_accept 85 = .ok (.iload 4, 2) := by decide +kernel
theorem dX7_accept_87 : decode cX7_accept 87 = .ok (.iconst 0, 1) := by decide +kernel
theorem dX7_accept_88 : decode cX7_accept 88 = .ok (.iconst 0, 1) := by decide +kernel
theorem dX7_accept_89 : decode cX7_accept 89 = .ok (.lconst 0, 1) := by decide +kernel
theorem dX7_accept_90 : decode cX7_accept 90 = .ok (.invokevirtual 137, 3) := by decide +kernel
