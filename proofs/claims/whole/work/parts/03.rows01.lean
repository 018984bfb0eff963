theorem dX0_init_0 : decode cX0_init 0 = .ok (.aload_n 0, 1) := by decide +kernel
theorem dX0_init_1 : decode cX0_init 1 = .ok (.invokespecial 3, 3) := by decide +kernel
theorem dX0_init_4 : decode cX0_init 4 = .ok (.aload_n 0, 1) := by decide +kernel
theorem dX0_init_5 : decode cX0_init 5 = .ok (.bipush 8, 2) := by decide +kernel
theorem dX0_init_7 : decode cX0_init 7 = .ok (.newarray .int, 2) := by decide +kernel
theorem dX0_init_9 : decode cX0_init 9 = .ok (.putfield 9, 3) := by decide +kernel
theorem dX0_init_12 : decode cX0_init 12 = .ok (.aload_n 0, 1) := by decide +kernel
theorem dX0_init_13 : decode cX0_init 13 = .ok (.iconst 0, 1) := by decide +kernel
theorem dX0_init_14 : decode cX0_init 14 = .ok (.putfield 15, 3) := by decide +kernel
theorem dX0_init_17 : decode cX0_init 17 = .ok (.aload_n 0, 1) := by decide +kernel
theorem dX0_init_18 : decode cX0_init 18 = .ok (.iconst 0, 1) := by decide +kernel
theorem dX0_init_19 : decode cX0_init 19 = .ok (.putfield 19, 3) := by decide +kernel
theorem dX0_init_22 : decode cX0_init 22 = .ok (.return_, 1) := by decide +kernel
set_option maxRecDepth 20000 in
theorem ggX0_ask_J7_fill_53178 : GoodIn wsX0_ask wsJ7_fill_53178 := goodIn_r _ [7] (by decide +kernel) (by decide +kernel)
set_option maxRecDepth 20000 in
theorem gX0_ask_J7_fill_53178 : GoodIn wsX0_ask (va_wsS RX0 22 yJ7_fill_53178 wsJ7_fill_53178) := goodIn_app (goodIn_of _ (by decide +kernel)) ggX0_ask_J7_fill_53178
set_option maxRecDepth 20000 in
theorem ggX0_ask_X0_meet : GoodIn wsX0_ask wsX0_meet := goodIn_r _ [12, 1, 13, 14, 15, 16, 17, 18, 19, 20, 21, 22, 23, 24, 25, 11, 26, 3, 2, 27, 28, 29, 35, 36] (by decide +kernel) (by decide +kernel)
set_option maxRecDepth 20000 in
theorem gX0_ask_X0_meet : GoodIn wsX0_ask (wsV RX0 39 RX0 yX0_meet wsX0_meet) := goodIn_app (goodIn_of _ (by decide +kernel)) ggX0_ask_X0_meet
theorem dX0_ask_0 : decode cX0_ask 0 = .ok (.aload_n 0, 1) := by decide +kernel
theorem dX0_ask_1 : decode cX0_ask 1 = .ok (.getfield 9, 3) := by decide +kernel
theorem dX0_ask_4 : decode cX0_ask 4 = .ok (.iconst 0, 1) := by decide +kernel
theorem dX0_ask_5 : decode cX0_ask 5 = .ok (.invokestatic 22, 3) := by decide +kernel
theorem dX0_ask_8 : decode cX0_ask 8 = .ok (.aload_n 0, 1) := by decide +kernel
theorem dX0_ask_9 : decode cX0_ask 9 = .ok (.iload 4, 2) := by decide +kernel
theorem dX0_ask_11 : decode cX0_ask 11 = .ok (.putfield 15, 3) := by decide +kernel
theorem dX0_ask_14 : decode cX0_ask 14 = .ok (.aload_n 0, 1) := by decide +kernel
theorem dX0_ask_15 : decode cX0_ask 15 = .ok (.iload 5, 2) := by decide +kernel
theorem dX0_ask_17 : decode cX0_ask 17 = .ok (.putfield 19, 3) := by decide +kernel
theorem dX0_ask_20 : decode cX0_ask 20 = .ok (.iconst 0, 1) := by decide +kernel
theorem dX0_ask_21 : decode cX0_ask 21 = .ok (.istore 6, 2) := by decide +kernel
theorem dX0_ask_23 : decode cX0_ask 23 = .ok (.iload 6, 2) := by decide +kernel
theorem dX0_ask_25 : decode cX0_ask 25 = .ok (.aload_n 3, 1) := by decide +kernel
theorem dX0_ask_26 : decode cX0_ask 26 = .ok (.getfield 28, 3) := by decide +kernel
theorem dX0_ask_29 : decode cX0_ask 29 = .ok (.if_icmp .ge 36, 3) := by decide +kernel
theorem dX0_ask_32 : decode cX0_ask 32 = .ok (.iload 6, 2) := by decide +kernel
theorem dX0_ask_34 : decode cX0_ask 34 = .ok (.bipush 12, 2) := by decide +kernel
theorem dX0_ask_36 : decode cX0_ask 36 = .ok (.if_icmp .ge 29, 3) := by decide +kernel
theorem dX0_ask_39 : decode cX0_ask 39 = .ok (.aload_n 0, 1) := by decide +kernel
theorem dX0_ask_40 : decode cX0_ask 40 = .ok (.aload_n 1, 1) := by decide +kernel
theorem dX0_ask_41 : decode cX0_ask 41 = .ok (.iload_n 2, 1) := by decide +kernel
theorem dX0_ask_42 : decode cX0_ask 42 = .ok (.aload_n 3, 1) := by decide +kernel
theorem dX0_ask_43 : decode cX0_ask 43 = .ok (.getfield 33, 3) := by decide +kernel
theorem dX0_ask_46 : decode cX0_ask 46 = .ok (.iload 6, 2) := by decide +kernel
theorem dX0_ask_48 : decode cX0_ask 48 = .ok (.iaload, 1) := by decide +kernel
theorem dX0_ask_49 : decode cX0_ask 49 = .ok (.aload_n 3, 1) := by decide +kernel
theorem dX0_ask_50 : decode cX0_ask 50 = .ok (.getfield 36, 3) := by decide +kernel
theorem dX0_ask_53 : decode cX0_ask 53 = .ok (.iload 6, 2) := by decide +kernel
theorem dX0_ask_55 : decode cX0_ask 55 = .ok (.iaload, 1) := by decide +kernel
theorem dX0_ask_56 : decode cX0_ask 56 = .ok (.invokevirtual 39, 3) := by decide +kernel
theorem dX0_ask_59 : decode cX0_ask 59 = .ok (.iinc 6 1, 3) := by decide +kernel
theorem dX0_ask_62 : decode cX0_ask 62 = .ok (.goto (-39), 3) := by decide +kernel
theorem dX0_ask_65 : decode cX0_ask 65 = .ok (.aload_n 0, 1) := by decide +kernel
theorem dX0_ask_66 : decode cX0_ask 66 = .ok (.aload_n 1, 1) := by decide +kernel
theorem dX0_ask_67 : decode cX0_ask 67 = .ok (.iload_n 2, 1) := by decide +kernel
theorem dX0_ask_68 : decode cX0_ask 68 = .ok (.iconst 0, 1) := by decide +kernel
theorem dX0_ask_69 : decode cX0_ask 69 = .ok (.bipush 50, 2) := by decide +kernel
theorem dX0_ask_71 : decode cX0_ask 71 = .ok (.invokevirtual 39, 3) := by decide +kernel
theorem dX0_ask_74 : decode cX0_ask 74 = .ok (.return_, 1) := by decide +kernel
set_option maxRecDepth 20000 in
theorem ggX0_meet_X4_of : GoodIn wsX0_meet wsX4_of := goodIn_r _ [10, 11, 22, 23] (by decide +kernel) (by decide +kernel)
set_option maxRecDepth 20000 in
theorem gX0_meet_X4_of : GoodIn wsX0_meet (wsV RX0 43 RX4 yX4_of wsX4_of) := goodIn_app (goodIn_of _ (by decide +kernel)) ggX0_meet_X4_of
set_option maxRecDepth 20000 in
theorem ggX0_meet_X0_meetGroup : GoodIn wsX0_meet wsX0_meetGroup := goodIn_r _ [16, 17, 18, 2, 3, 4, 5, 1, 19, 20, 21] (by decide +kernel) (by decide +kernel)
set_option maxRecDepth 20000 in
theorem gX0_meet_X0_meetGroup : GoodIn wsX0_meet (wsV RX0 54 RX0 yX0_meetGroup wsX0_meetGroup) := goodIn_app (goodIn_of _ (by decide +kernel)) ggX0_meet_X0_meetGroup
theorem dX0_meet_0 : decode cX0_meet 0 = .ok (.iload_n 3, 1) := by decide +kernel
theorem dX0_meet_1 : decode cX0_meet 1 = .ok (.bipush 8, 2) := by decide +kernel
theorem dX0_meet_3 : decode cX0_meet 3 = .ok (.idiv, 1) := by decide +kernel
theorem dX0_meet_4 : decode cX0_meet 4 = .ok (.istore 5, 2) := by decide +kernel
theorem dX0_meet_6 : decode cX0_meet 6 = .ok (.iload_n 3, 1) := by decide +kernel
theorem dX0_meet_7 : decode cX0_meet 7 = .ok (.bipush 8, 2) := by decide +kernel
theorem dX0_meet_9 : decode cX0_meet 9 = .ok (.irem, 1) := by decide +kernel
theorem dX0_meet_10 : decode cX0_meet 10 = .ok (.istore 6, 2) := by decide +kernel
theorem dX0_meet_12 : decode cX0_meet 12 = .ok (.iload 4, 2) := by decide +kernel
theorem dX0_meet_14 : decode cX0_meet 14 = .ok (.istore 7, 2) := by decide +kernel
theorem dX0_meet_16 : decode cX0_meet 16 = .ok (.iconst 0, 1) := by decide +kernel
theorem dX0_meet_17 : decode cX0_meet 17 = .ok (.istore 8, 2) := by decide +kernel
theorem dX0_meet_19 : decode cX0_meet 19 = .ok (.iload 8, 2) := by decide +kernel
theorem dX0_meet_21 : decode cX0_meet 21 = .ok (.bipush 8, 2) := by decide +kernel
theorem dX0_meet_23 : decode cX0_meet 23 = .ok (.if_icmp .ge 50, 3) := by decide +kernel
theorem dX0_meet_26 : decode cX0_meet 26 = .ok (.iload 8, 2) := by decide +kernel
theorem dX0_meet_28 : decode cX0_meet 28 = .ok (.iload 5, 2) := by decide +kernel
theorem dX0_meet_30 : decode cX0_meet 30 = .ok (.iand, 1) := by decide +kernel
theorem dX0_meet_31 : decode cX0_meet 31 = .ok (.iload 6, 2) := by decide +kernel
theorem dX0_meet_33 : decode cX0_meet 33 = .ok (.if_icmp .ne 34, 3) := by decide +kernel
theorem dX0_meet_36 : decode cX0_meet 36 = .ok (.iload 7, 2) := by decide +kernel
theorem dX0_meet_38 : decode cX0_meet 38 = .ok (.aload_n 0, 1) := by decide +kernel
theorem dX0_meet_39 : decode cX0_meet 39 = .ok (.iload 8, 2) := by decide +kernel
theorem dX0_meet_41 : decode cX0_meet 41 = .ok (.iload 7, 2) := by decide +kernel
theorem dX0_meet_43 : decode cX0_meet 43 = .ok (.aload_n 1, 1) := by decide +kernel
theorem dX0_meet_44 : decode cX0_meet 44 = .ok (.iload_n 2, 1) := by decide +kernel
theorem dX0_meet_45 : decode cX0_meet 45 = .ok (.iload 8, 2) := by decide +kernel
theorem dX0_meet_47 : decode cX0_meet 47 = .ok (.invokevirtual 43, 3) := by decide +kernel
theorem dX0_meet_50 : decode cX0_meet 50 = .ok (.aload_n 0, 1) := by decide +kernel
theorem dX0_meet_51 : decode cX0_meet 51 = .ok (.getfield 9, 3) := by decide +kernel
theorem dX0_meet_54 : decode cX0_meet 54 = .ok (.iload 8, 2) := by decide +kernel
theorem dX0_meet_56 : decode cX0_meet 56 = .ok (.iaload, 1) := by decide +kernel
theorem dX0_meet_57 : decode cX0_meet 57 = .ok (.isub, 1) := by decide +kernel
theorem dX0_meet_58 : decode cX0_meet 58 = .ok (.invokestatic 49, 3) := by decide +kernel
theorem dX0_meet_61 : decode cX0_meet 61 = .ok (.invokevirtual 54, 3) := by decide +kernel
theorem dX0_meet_64 : decode cX0_meet 64 = .ok (.isub, 1) := by decide +kernel
theorem dX0_meet_65 : decode cX0_meet 65 = .ok (.istore 7, 2) := by decide +kernel
theorem dX0_meet_67 : decode cX0_meet 67 = .ok (.iinc 8 1, 3) := by decide +kernel
theorem dX0_meet_70 : decode cX0_meet 70 = .ok (.goto (-51), 3) := by decide +kernel
theorem dX0_meet_73 : decode cX0_meet 73 = .ok (.return_, 1) := by decide +kernel
theorem dX0_meetGroup_0 : decode cX0_meetGroup 0 = .ok (.iload_n 1, 1) := by decide +kernel
theorem dX0_meetGroup_1 : decode cX0_meetGroup 1 = .ok (.iconst 2, 1) := by decide +kernel
theorem dX0_meetGroup_2 : decode cX0_meetGroup 2 = .ok (.iand, 1) := by decide +kernel
theorem dX0_meetGroup_3 : decode cX0_meetGroup 3 = .ok (.ifCond .eq 7, 3) := by decide +kernel
theorem dX0_meetGroup_6 : decode cX0_meetGroup 6 = .ok (.iconst 1, 1) := by decide +kernel
theorem dX0_meetGroup_7 : decode cX0_meetGroup 7 = .ok (.goto 4, 3) := by decide +kernel
theorem dX0_meetGroup_10 : decode cX0_meetGroup 10 = .ok (.iconst 0, 1) := by decide +kernel
theorem dX0_meetGroup_11 : decode cX0_meetGroup 11 = .ok (.istore_n 3, 1) := by decide +kernel
theorem dX0_meetGroup_12 : decode cX0_meetGroup 12 = .ok (.iload_n 2, 1) := by decide +kernel
theorem dX0_meetGroup_13 : decode cX0_meetGroup 13 = .ok (.iload_n 3, 1) := by decide +kernel
theorem dX0_meetGroup_14 : decode cX0_meetGroup 14 = .ok (.ifCond .eq 10, 3) := by decide +kernel
theorem dX0_meetGroup_17 : decode cX0_meetGroup 17 = .ok (.aload_n 0, 1) := by decide +kernel
theorem dX0_meetGroup_18 : decode cX0_meetGroup 18 = .ok (.getfield 19, 3) := by decide +kernel
theorem dX0_meetGroup_21 : decode cX0_meetGroup 21 = .ok (.goto 7, 3) := by decide +kernel
theorem dX0_meetGroup_24 : decode cX0_meetGroup 24 = .ok (.aload_n 0, 1) := by decide +kernel
theorem dX0_meetGroup_25 : decode cX0_meetGroup 25 = .ok (.getfield 15, 3) := by decide +kernel
theorem dX0_meetGroup_28 : decode cX0_meetGroup 28 = .ok (.invokestatic 49, 3) := by decide +kernel
theorem dX0_meetGroup_31 : decode cX0_meetGroup 31 = .ok (.istore 4, 2) := by decide +kernel
theorem dX0_meetGroup_33 : decode cX0_meetGroup 33 = .ok (.aload_n 0, 1) := by decide +kernel
theorem dX0_meetGroup_34 : decode cX0_meetGroup 34 = .ok (.getfield 9, 3) := by decide +kernel
theorem dX0_meetGroup_37 : decode cX0_meetGroup 37 = .ok (.iload_n 1, 1) := by decide +kernel
theorem dX0_meetGroup_38 : decode cX0_meetGroup 38 = .ok (.dup2, 1) := by decide +kernel
theorem dX0_meetGroup_39 : decode cX0_meetGroup 39 = .ok (.iaload, 1) := by decide +kernel
theorem dX0_meetGroup_40 : decode cX0_meetGroup 40 = .ok (.iload 4, 2) := by decide +kernel
theorem dX0_meetGroup_42 : decode cX0_meetGroup 42 = .ok (.iadd, 1) := by decide +kernel
theorem dX0_meetGroup_43 : decode cX0_meetGroup 43 = .ok (.iastore, 1) := by decide +kernel
theorem dX0_meetGroup_44 : decode cX0_meetGroup 44 = .ok (.iload_n 3, 1) := by decide +kernel
theorem dX0_meetGroup_45 : decode cX0_meetGroup 45 = .ok (.ifCond .eq 17, 3) := by decide +kernel
theorem dX0_meetGroup_48 : decode cX0_meetGroup 48 = .ok (.aload_n 0, 1) := by decide +kernel
theorem dX0_meetGroup_49 : decode cX0_meetGroup 49 = .ok (.dup, 1) := by decide +kernel
theorem dX0_meetGroup_50 : decode cX0_meetGroup 50 = .ok (.getfield 19, 3) := by decide +kernel
theorem dX0_meetGroup_53 : decode cX0_meetGroup 53 = .ok (.iload 4, 2) := by decide +kernel
theorem dX0_meetGroup_55 : decode cX0_meetGroup 55 = .ok (.isub, 1) := by decide +kernel
theorem dX0_meetGroup_56 : decode cX0_meetGroup 56 = .ok (.putfield 19, 3) := by decide +kernel
theorem dX0_meetGroup_59 : decode cX0_meetGroup 59 = .ok (.goto 14, 3) := by decide +kernel
theorem dX0_meetGroup_62 : decode cX0_meetGroup 62 = .ok (.aload_n 0, 1) := by decide +kernel
theorem dX0_meetGroup_63 : decode cX0_meetGroup 63 = .ok (.dup, 1) := by decide +kernel
theorem dX0_meetGroup_64 : decode cX0_meetGroup 64 = .ok (.getfield 15, 3) := by decide +kernel
theorem dX0_meetGroup_67 : decode cX0_meetGroup 67 = .ok (.iload 4, 2) := by decide +kernel
theorem dX0_meetGroup_69 : decode cX0_meetGroup 69 = .ok (.isub, 1) := by decide +kernel
theorem dX0_meetGroup_70 : decode cX0_meetGroup 70 = .ok (.putfield 15, 3) := by decide +kernel
theorem dX0_meetGroup_73 : decode cX0_meetGroup 73 = .ok (.iload 4, 2) := by decide +kernel
theorem dX0_meetGroup_75 : decode cX0_meetGroup 75 = .ok (.ireturn, 1) := by decide +kernel
theorem dX0_metOfGroup_0 : decode cX0_metOfGroup 0 = .ok (.aload_n 0, 1) := by decide +kernel
theorem dX0_metOfGroup_1 : decode cX0_metOfGroup 1 = .ok (.getfield 9, 3) := by decide +kernel
theorem dX0_metOfGroup_4 : decode cX0_metOfGroup 4 = .ok (.iload_n 1, 1) := by decide +kernel
theorem dX0_metOfGroup_5 : decode cX0_metOfGroup 5 = .ok (.iaload, 1) := by decide +kernel
theorem dX0_metOfGroup_6 : decode cX0_metOfGroup 6 = .ok (.ireturn, 1) := by decide +kernel
theorem dX0_met_0 : decode cX0_met 0 = .ok (.iconst 0, 1) := by decide +kernel
theorem dX0_met_1 : decode cX0_met 1 = .ok (.istore_n 3, 1) := by decide +kernel
theorem dX0_met_2 : decode cX0_met 2 = .ok (.iconst 0, 1) := by decide +kernel
theorem dX0_met_3 : decode cX0_met 3 = .ok (.istore 4, 2) := by decide +kernel
theorem dX0_met_5 : decode cX0_met 5 = .ok (.iload 4, 2) := by decide +kernel
theorem dX0_met_7 : decode cX0_met 7 = .ok (.bipush 8, 2) := by decide +kernel
theorem dX0_met_9 : decode cX0_met 9 = .ok (.if_icmp .ge 27, 3) := by decide +kernel
theorem dX0_met_12 : decode cX0_met 12 = .ok (.iload 4, 2) := by decide +kernel
theorem dX0_met_14 : decode cX0_met 14 = .ok (.iload_n 1, 1) := by decide +kernel
theorem dX0_met_15 : decode cX0_met 15 = .ok (.iand, 1) := by decide +kernel
theorem dX0_met_16 : decode cX0_met 16 = .ok (.iload_n 2, 1) := by decide +kernel
theorem dX0_met_17 : decode cX0_met 17 = .ok (.if_icmp .ne 13, 3) := by decide +kernel
theorem dX0_met_20 : decode cX0_met 20 = .ok (.iload_n 3, 1) := by decide +kernel
theorem dX0_met_21 : decode cX0_met 21 = .ok (.aload_n 0, 1) := by decide +kernel
theorem dX0_met_22 : decode cX0_met 22 = .ok (.getfield 9, 3) := by decide +kernel
theorem dX0_met_25 : decode cX0_met 25 = .ok (.iload 4, 2) := by decide +kernel
theorem dX0_met_27 : decode cX0_met 27 = .ok (.iaload, 1) := by decide +kernel
theorem dX0_met_28 : decode cX0_met 28 = .ok (.iadd, 1) := by decide +kernel
theorem dX0_met_29 : decode cX0_met 29 = .ok (.istore_n 3, 1) := by decide +kernel
theorem dX0_met_30 : decode cX0_met 30 = .ok (.iinc 4 1, 3) := by decide +kernel
theorem dX0_met_33 : decode cX0_met 33 = .ok (.goto (-28), 3) := by decide +kernel
theorem dX0_met_36 : decode cX0_met 36 = .ok (.iload_n 3, 1) := by decide +kernel
theorem dX0_met_37 : decode cX0_met 37 = .ok (.ireturn, 1) := by decide +kernel
theorem dX1_init_0 : decode cX1_init 0 = .ok (.aload_n 0, 1) := by decide +kernel
theorem dX1_init_1 : decode cX1_init 1 = .ok (.invokespecial 3, 3) := by decide +kernel
theorem dX1_init_4 : decode cX1_init 4 = .ok (.aload_n 0, 1) := by decide +kernel
theorem dX1_init_5 : decode cX1_init 5 = .ok (.lconst 0, 1) := by decide +kernel
theorem dX1_init_6 : decode cX1_init 6 = .ok (.putfield 9, 3) := by decide +kernel
theorem dX1_init_9 : decode cX1_init 9 = .ok (.aload_n 0, 1) := by decide +kernel
theorem dX1_init_10 : decode cX1_init 10 = .ok (.lconst 0, 1) := by decide +kernel
theorem dX1_init_11 : decode cX1_init 11 = .ok (.putfield 15, 3) := by decide +kernel
theorem dX1_init_14 : decode cX1_init 14 = .ok (.return_, 1) := by decide +kernel
set_option maxRecDepth 20000 in
theorem ggX1_become_X1_commonDivisor : GoodIn wsX1_become wsX1_commonDivisor := goodIn_r _ [10] (by decide +kernel) (by decide +kernel)
set_option maxRecDepth 20000 in
theorem gX1_become_X1_commonDivisor : GoodIn wsX1_become (va_wsS RX1 24 yX1_commonDivisor wsX1_commonDivisor) := goodIn_app (goodIn_of _ (by decide +kernel)) ggX1_become_X1_commonDivisor
theorem dX1_become_0 : decode cX1_become 0 = .ok (.lload_n 1, 1) := by decide +kernel
theorem dX1_become_1 : decode cX1_become 1 = .ok (.invokestatic 18, 3) := by decide +kernel
theorem dX1_become_4 : decode cX1_become 4 = .ok (.lload_n 3, 1) := by decide +kernel
theorem dX1_become_5 : decode cX1_become 5 = .ok (.invokestatic 24, 3) := by decide +kernel
theorem dX1_become_8 : decode cX1_become 8 = .ok (.lstore 5, 2) := by decide +kernel
theorem dX1_become_10 : decode cX1_become 10 = .ok (.lload_n 3, 1) := by decide +kernel
theorem dX1_become_11 : decode cX1_become 11 = .ok (.lconst 1, 1) := by decide +kernel
theorem dX1_become_12 : decode cX1_become 12 = .ok (.lcmp, 1) := by decide +kernel
theorem dX1_become_13 : decode cX1_become 13 = .ok (.ifCond .lt 10, 3) := by decide +kernel
theorem dX1_become_16 : decode cX1_become 16 = .ok (.lload 5, 2) := by decide +kernel
theorem dX1_become_18 : decode cX1_become 18 = .ok (.lconst 1, 1) := by decide +kernel
theorem dX1_become_19 : decode cX1_become 19 = .ok (.lcmp, 1) := by decide +kernel
theorem dX1_become_20 : decode cX1_become 20 = .ok (.ifCond .ge 14, 3) := by decide +kernel
theorem dX1_become_23 : decode cX1_become 23 = .ok (.aload_n 0, 1) := by decide +kernel
theorem dX1_become_24 : decode cX1_become 24 = .ok (.lconst 0, 1) := by decide +kernel
theorem dX1_become_25 : decode cX1_become 25 = .ok (.putfield 9, 3) := by decide +kernel
theorem dX1_become_28 : decode cX1_become 28 = .ok (.aload_n 0, 1) := by decide +kernel
theorem dX1_become_29 : decode cX1_become 29 = .ok (.lconst 0, 1) := by decide +kernel
theorem dX1_become_30 : decode cX1_become 30 = .ok (.putfield 15, 3) := by decide +kernel
theorem dX1_become_33 : decode cX1_become 33 = .ok (.return_, 1) := by decide +kernel
theorem dX1_become_34 : decode cX1_become 34 = .ok (.aload_n 0, 1) := by decide +kernel
theorem dX1_become_35 : decode cX1_become 35 = .ok (.lload_n 1, 1) := by decide +kernel
theorem dX1_become_36 : decode cX1_become 36 = .ok (.lload 5, 2) := by decide +kernel
theorem dX1_become_38 : decode cX1_become 38 = .ok (.ldiv, 1) := by decide +kernel
theorem dX1_become_39 : decode cX1_become 39 = .ok (.putfield 9, 3) := by decide +kernel
theorem dX1_become_42 : decode cX1_become 42 = .ok (.aload_n 0, 1) := by decide +kernel
theorem dX1_become_43 : decode cX1_become 43 = .ok (.lload_n 3, 1) := by decide +kernel
theorem dX1_become_44 : decode cX1_become 44 = .ok (.lload 5, 2) := by decide +kernel
theorem dX1_become_46 : decode cX1_become 46 = .ok (.ldiv, 1) := by decide +kernel
theorem dX1_become_47 : decode cX1_become 47 = .ok (.putfield 15, 3) := by decide +kernel
theorem dX1_become_50 : decode cX1_become 50 = .ok (.return_, 1) := by decide +kernel
set_option maxRecDepth 20000 in
theorem ggX1_add_X1_become : GoodIn wsX1_add wsX1_become := goodIn_r _ [7, 8, 9, 10, 11, 1, 2, 12, 13, 6, 14, 15, 16] (by decide +kernel) (by decide +kernel)
set_option maxRecDepth 20000 in
theorem gX1_add_X1_become : GoodIn wsX1_add (wsV RX1 28 RX1 yX1_become wsX1_become) := goodIn_app (goodIn_of _ (by decide +kernel)) ggX1_add_X1_become
theorem dX1_add_0 : decode cX1_add 0 = .ok (.aload_n 0, 1) := by decide +kernel
theorem dX1_add_1 : decode cX1_add 1 = .ok (.aload_n 0, 1) := by decide +kernel
theorem dX1_add_2 : decode cX1_add 2 = .ok (.getfield 9, 3) := by decide +kernel
theorem dX1_add_5 : decode cX1_add 5 = .ok (.lload_n 3, 1) := by decide +kernel
theorem dX1_add_6 : decode cX1_add 6 = .ok (.lmul, 1) := by decide +kernel
theorem dX1_add_7 : decode cX1_add 7 = .ok (.lload_n 1, 1) := by decide +kernel
theorem dX1_add_8 : decode cX1_add 8 = .ok (.aload_n 0, 1) := by decide +kernel
theorem dX1_add_9 : decode cX1_add 9 = .ok (.getfield 15, 3) := by decide +kernel
theorem dX1_add_12 : decode cX1_add 12 = .ok (.lmul, 1) := by decide +kernel
theorem dX1_add_13 : decode cX1_add 13 = .ok (.ladd, 1) := by decide +kernel
theorem dX1_add_14 : decode cX1_add 14 = .ok (.aload_n 0, 1) := by decide +kernel
theorem dX1_add_15 : decode cX1_add 15 = .ok (.getfield 15, 3) := by decide +kernel
theorem dX1_add_18 : decode cX1_add 18 = .ok (.lload_n 3, 1) := by decide +kernel
theorem dX1_add_19 : decode cX1_add 19 = .ok (.lmul, 1) := by decide +kernel
theorem dX1_add_20 : decode cX1_add 20 = .ok (.invokevirtual 28, 3) := by decide +kernel
theorem dX1_add_23 : decode cX1_add 23 = .ok (.return_, 1) := by decide +kernel
theorem dX1_isThere_0 : decode cX1_isThere 0 = .ok (.aload_n 0, 1) := by decide +kernel
theorem dX1_isThere_1 : decode cX1_isThere 1 = .ok (.getfield 15, 3) := by decide +kernel
theorem dX1_isThere_4 : decode cX1_isThere 4 = .ok (.lconst 0, 1) := by decide +kernel
theorem dX1_isThere_5 : decode cX1_isThere 5 = .ok (.lcmp, 1) := by decide +kernel
theorem dX1_isThere_6 : decode cX1_isThere 6 = .ok (.ifCond .le 7, 3) := by decide +kernel
theorem dX1_isThere_9 : decode cX1_isThere 9 = .ok (.iconst 1, 1) := by decide +kernel
theorem dX1_isThere_10 : decode cX1_isThere 10 = .ok (.goto 4, 3) := by decide +kernel
theorem dX1_isThere_13 : decode cX1_isThere 13 = .ok (.iconst 0, 1) := by decide +kernel
theorem dX1_isThere_14 : decode cX1_isThere 14 = .ok (.ireturn, 1) := by decide +kernel
set_option maxRecDepth 20000 in
theorem ggX1_part_X1_isThere : GoodIn wsX1_part wsX1_isThere := goodIn_r _ [8, 3, 9, 10] (by decide +kernel) (by decide +kernel)
set_option maxRecDepth 20000 in
theorem gX1_part_X1_isThere : GoodIn wsX1_part (wsV RX1 32 RX1 yX1_isThere wsX1_isThere) := goodIn_app (goodIn_of _ (by decide +kernel)) ggX1_part_X1_isThere
theorem dX1_part_0 : decode cX1_part 0 = .ok (.aload_n 0, 1) := by decide +kernel
theorem dX1_part_1 : decode cX1_part 1 = .ok (.invokevirtual 32, 3) := by decide +kernel
theorem dX1_part_4 : decode cX1_part 4 = .ok (.ifCond .ne 7, 3) := by decide +kernel
theorem dX1_part_7 : decode cX1_part 7 = .ok (.ldc2_w 36, 3) := by decide +kernel
theorem dX1_part_10 : decode cX1_part 10 = .ok (.lreturn, 1) := by decide +kernel
theorem dX1_part_11 : decode cX1_part 11 = .ok (.iload_n 1, 1) := by decide +kernel
theorem dX1_part_12 : decode cX1_part 12 = .ok (.ifCond .ne 10, 3) := by decide +kernel
theorem dX1_part_15 : decode cX1_part 15 = .ok (.aload_n 0, 1) := by decide +kernel
theorem dX1_part_16 : decode cX1_part 16 = .ok (.getfield 9, 3) := by decide +kernel
theorem dX1_part_19 : decode cX1_part 19 = .ok (.goto 7, 3) := by decide +kernel
theorem dX1_part_22 : decode cX1_part 22 = .ok (.aload_n 0, 1) := by decide +kernel
theorem dX1_part_23 : decode cX1_part 23 = .ok (.getfield 15, 3) := by decide +kernel
theorem dX1_part_26 : decode cX1_part 26 = .ok (.lreturn, 1) := by decide +kernel
set_option maxRecDepth 20000 in
theorem ggX1_hundredthsUp_X1_isThere : GoodIn wsX1_hundredthsUp wsX1_isThere := goodIn_r _ [12, 7, 13, 14] (by decide +kernel) (by decide +kernel)
set_option maxRecDepth 20000 in
theorem gX1_hundredthsUp_X1_isThere : GoodIn wsX1_hundredthsUp (wsV RX1 32 RX1 yX1_isThere wsX1_isThere) := goodIn_app (goodIn_of _ (by decide +kernel)) ggX1_hundredthsUp_X1_isThere
theorem dX1_hundredthsUp_0 : decode cX1_hundredthsUp 0 = .ok (.aload_n 0, 1) := by decide +kernel
theorem dX1_hundredthsUp_1 : decode cX1_hundredthsUp 1 = .ok (.invokevirtual 32, 3) := by decide +kernel
theorem dX1_hundredthsUp_4 : decode cX1_hundredthsUp 4 = .ok (.ifCond .eq 30, 3) := by decide +kernel
theorem dX1_hundredthsUp_7 : decode cX1_hundredthsUp 7 = .ok (.aload_n 0, 1) := by decide +kernel
theorem dX1_hundredthsUp_8 : decode cX1_hundredthsUp 8 = .ok (.getfield 9, 3) := by decide +kernel
theorem dX1_hundredthsUp_11 : decode cX1_hundredthsUp 11 = .ok (.invokestatic 18, 3) := by decide +kernel
theorem dX1_hundredthsUp_14 : decode cX1_hundredthsUp 14 = .ok (.ldc2_w 38, 3) := by decide +kernel
theorem dX1_hundredthsUp_17 : decode cX1_hundredthsUp 17 = .ok (.lmul, 1) := by decide +kernel
theorem dX1_hundredthsUp_18 : decode cX1_hundredthsUp 18 = .ok (.aload_n 0, 1) := by decide +kernel
theorem dX1_hundredthsUp_19 : decode cX1_hundredthsUp 19 = .ok (.getfield 15, 3) := by decide +kernel
theorem dX1_hundredthsUp_22 : decode cX1_hundredthsUp 22 = .ok (.ladd, 1) := by decide +kernel
theorem dX1_hundredthsUp_23 : decode cX1_hundredthsUp 23 = .ok (.lconst 1, 1) := by decide +kernel
theorem dX1_hundredthsUp_24 : decode cX1_hundredthsUp 24 = .ok (.lsub, 1) := by decide +kernel
theorem dX1_hundredthsUp_25 : decode cX1_hundredthsUp 25 = .ok (.aload_n 0, 1) := by decide +kernel
theorem dX1_hundredthsUp_26 : decode cX1_hundredthsUp 26 = .ok (.getfield 15, 3) := by decide +kernel
theorem dX1_hundredthsUp_29 : decode cX1_hundredthsUp 29 = .ok (.ldiv, 1) := by decide +kernel
theorem dX1_hundredthsUp_30 : decode cX1_hundredthsUp 30 = .ok (.l2i, 1) := by decide +kernel
theorem dX1_hundredthsUp_31 : decode cX1_hundredthsUp 31 = .ok (.goto 4, 3) := by decide +kernel
theorem dX1_hundredthsUp_34 : decode cX1_hundredthsUp 34 = .ok (.iconst 0, 1) := by decide +kernel
theorem dX1_hundredthsUp_35 : decode cX1_hundredthsUp 35 = .ok (.ireturn, 1) := by decide +kernel
theorem dX1_commonDivisor_0 : decode cX1_commonDivisor 0 = .ok (.lload_n 0, 1) := by decide +kernel
theorem dX1_commonDivisor_1 : decode cX1_commonDivisor 1 = .ok (.lstore 4, 2) := by decide +kernel
theorem dX1_commonDivisor_3 : decode cX1_commonDivisor 3 = .ok (.lload_n 2, 1) := by decide +kernel
theorem dX1_commonDivisor_4 : decode cX1_commonDivisor 4 = .ok (.lstore 6, 2) := by decide +kernel
theorem dX1_commonDivisor_6 : decode cX1_commonDivisor 6 = .ok (.iconst 0, 1) := by decide +kernel
theorem dX1_commonDivisor_7 : decode cX1_commonDivisor 7 = .ok (.istore 8, 2) := by decide +kernel
theorem dX1_commonDivisor_9 : decode cX1_commonDivisor 9 = .ok (.iload 8, 2) := by decide +kernel
theorem dX1_commonDivisor_11 : decode cX1_commonDivisor 11 = .ok (.bipush 100, 2) := by decide +kernel
theorem dX1_commonDivisor_13 : decode cX1_commonDivisor 13 = .ok (.if_icmp .ge 31, 3) := by decide +kernel
theorem dX1_commonDivisor_16 : decode cX1_commonDivisor 16 = .ok (.lload 6, 2) := by decide +kernel
theorem dX1_commonDivisor_18 : decode cX1_commonDivisor 18 = .ok (.lconst 0, 1) := by decide +kernel
theorem dX1_commonDivisor_19 : decode cX1_commonDivisor 19 = .ok (.lcmp, 1) := by decide +kernel
theorem dX1_commonDivisor_20 : decode cX1_commonDivisor 20 = .ok (.ifCond .eq 24, 3) := by decide +kernel
theorem dX1_commonDivisor_23 : decode cX1_commonDivisor 23 = .ok (.lload 4, 2) := by decide +kernel
theorem dX1_commonDivisor_25 : decode cX1_commonDivisor 25 = .ok (.lload 6, 2) := by decide +kernel
theorem dX1_commonDivisor_27 : decode cX1_commonDivisor 27 = .ok (.lrem, 1) := by decide +kernel
theorem dX1_commonDivisor_28 : decode cX1_commonDivisor 28 = .ok (.lstore 9, 2) := by decide +kernel
theorem dX1_commonDivisor_30 : decode cX1_commonDivisor 30 = .ok (.lload 6, 2) := by decide +kernel
theorem dX1_commonDivisor_32 : decode cX1_commonDivisor 32 = .ok (.lstore 4, 2) := by decide +kernel
theorem dX1_commonDivisor_34 : decode cX1_commonDivisor 34 = .ok (.lload 9, 2) := by decide +kernel
theorem dX1_commonDivisor_36 : decode cX1_commonDivisor 36 = .ok (.lstore 6, 2) := by decide +kernel
theorem dX1_commonDivisor_38 : decode cX1_commonDivisor 38 = .ok (.iinc 8 1, 3) := by decide +kernel
theorem dX1_commonDivisor_41 : decode cX1_commonDivisor 41 = .ok (.goto (-32), 3) := by decide +kernel
theorem dX1_commonDivisor_44 : decode cX1_commonDivisor 44 = .ok (.lload 4, 2) := by decide +kernel
theorem dX1_commonDivisor_46 : decode cX1_commonDivisor 46 = .ok (.lreturn, 1) := by decide +kernel
theorem dX2_init_0 : decode cX2_init 0 = .ok (.aload_n 0, 1) := by decide +kernel
theorem dX2_init_1 : decode cX2_init 1 = .ok (.invokespecial 3, 3) := by decide +kernel
theorem dX2_init_4 : decode cX2_init 4 = .ok (.aload_n 0, 1) := by decide +kernel
theorem dX2_init_5 : decode cX2_init 5 = .ok (.bipush 12, 2) := by decide +kernel
theorem dX2_init_7 : decode cX2_init 7 = .ok (.newarray .int, 2) := by decide +kernel
theorem dX2_init_9 : decode cX2_init 9 = .ok (.putfield 9, 3) := by decide +kernel
theorem dX2_init_12 : decode cX2_init 12 = .ok (.aload_n 0, 1) := by decide +kernel
theorem dX2_init_13 : decode cX2_init 13 = .ok (.bipush 12, 2) := by decide +kernel
theorem dX2_init_15 : decode cX2_init 15 = .ok (.newarray .int, 2) := by decide +kernel
theorem dX2_init_17 : decode cX2_init 17 = .ok (.putfield 15, 3) := by decide +kernel
theorem dX2_init_20 : decode cX2_init 20 = .ok (.aload_n 0, 1) := by decide +kernel
theorem dX2_init_21 : decode cX2_init 21 = .ok (.bipush 12, 2) := by decide +kernel
theorem dX2_init_23 : decode cX2_init 23 = .ok (.newarray .int, 2) := by decide +kernel
theorem dX2_init_25 : decode cX2_init 25 = .ok (.putfield 18, 3) := by decide +kernel
theorem dX2_init_28 : decode cX2_init 28 = .ok (.aload_n 0, 1) := by decide +kernel
theorem dX2_init_29 : decode cX2_init 29 = .ok (.bipush 12, 2) := by decide +kernel
theorem dX2_init_31 : decode cX2_init 31 = .ok (.newarray .int, 2) := by decide +kernel
theorem dX2_init_33 : decode cX2_init 33 = .ok (.putfield 21, 3) := by decide +kernel
theorem dX2_init_36 : decode cX2_init 36 = .ok (.aload_n 0, 1) := by decide +kernel
theorem dX2_init_37 : decode cX2_init 37 = .ok (.iconst 0, 1) := by decide +kernel
theorem dX2_init_38 : decode cX2_init 38 = .ok (.putfield 24, 3) := by decide +kernel
theorem dX2_init_41 : decode cX2_init 41 = .ok (.return_, 1) := by decide +kernel
set_option maxRecDepth 20000 in
theorem ggX2_learn_X6_rewind : GoodIn wsX2_learn wsX6_rewind := goodIn_r _ [6, 7, 132, 133, 134, 135, 136, 137] (by decide +kernel) (by decide +kernel)
set_option maxRecDepth 20000 in
theorem gX2_learn_X6_rewind : GoodIn wsX2_learn (wsV RX2 28 RX6 yX6_rewind wsX6_rewind) := goodIn_app (goodIn_of _ (by decide +kernel)) ggX2_learn_X6_rewind
set_option maxRecDepth 20000 in
theorem ggX2_learn_X6_advance : GoodIn wsX2_learn wsX6_advance := goodIn_r _ [11, 7, 12, 13, 14, 15, 16, 17, 18, 19, 20, 21, 5, 22, 23, 24, 25, 26, 27, 28, 29, 30, 31, 32, 33, 34, 35, 36, 37, 38, 39, 40, 41, 42, 43, 44, 45, 46, 47, 48, 49, 50, 51, 52, 53, 54, 55, 56, 57, 58, 59, 60, 61, 62, 63, 64, 65, 66, 67, 68, 69, 70, 71, 72, 73, 74, 75, 76, 77, 78, 79, 80, 81, 82, 83, 84, 85, 86, 87, 88, 89, 90, 91, 92, 93, 94, 95, 96, 97, 98, 99, 100, 101, 132, 133, 134, 135, 136, 137] (by decide +kernel) (by decide +kernel)
set_option maxRecDepth 20000 in
theorem gX2_learn_X6_advance : GoodIn wsX2_learn (wsV RX2 33 RX6 yX6_advance wsX6_advance) := goodIn_app (goodIn_of _ (by decide +kernel)) ggX2_learn_X6_advance
set_option maxRecDepth 20000 in
theorem ggX2_learn_X2_keep : GoodIn wsX2_learn wsX2_keep := goodIn_r _ [106, 107, 108, 109, 110, 111, 112, 113, 114, 115, 116, 117, 118, 5, 119, 13, 138, 139, 140, 141, 142, 132, 133, 134, 135, 136, 137] (by decide +kernel) (by decide +kernel)
set_option maxRecDepth 20000 in
theorem gX2_learn_X2_keep : GoodIn wsX2_learn (wsV RX2 45 RX2 yX2_keep wsX2_keep) := goodIn_app (goodIn_of _ (by decide +kernel)) ggX2_learn_X2_keep
set_option maxRecDepth 20000 in
theorem ggX2_learn_X2_readFind : GoodIn wsX2_learn wsX2_readFind := goodIn_r _ [123, 124, 125, 126, 107, 113, 127, 128, 8, 9, 10, 5, 11, 7, 12, 13, 14, 15, 16, 17, 18, 19, 20, 21, 22, 23, 24, 25, 26, 27, 28, 29, 30, 31, 32, 33, 34, 35, 36, 37, 38, 39, 40, 41, 42, 43, 44, 45, 46, 47, 48, 49, 50, 51, 52, 53, 54, 55, 56, 57, 58, 59, 60, 61, 62, 63, 64, 65, 66, 67, 68, 69, 70, 71, 72, 73, 74, 75, 76, 77, 78, 79, 80, 81, 82, 83, 84, 85, 86, 87, 88, 89, 90, 91, 92, 93, 94, 95, 96, 97, 98, 99, 100, 101, 129, 130, 131, 132, 133, 134, 135, 136, 137, 138, 139, 140, 141, 142] (by decide +kernel) (by decide +kernel)
set_option maxRecDepth 20000 in
theorem gX2_learn_X2_readFind : GoodIn wsX2_learn (wsV RX2 49 RX2 yX2_readFind wsX2_readFind) := goodIn_app (goodIn_of _ (by decide +kernel)) ggX2_learn_X2_readFind
theorem dX2_learn_0 : decode cX2_learn 0 = .ok (.aload_n 1, 1) := by decide +kernel
theorem dX2_learn_1 : decode cX2_learn 1 = .ok (.invokevirtual 28, 3) := by decide +kernel
theorem dX2_learn_4 : decode cX2_learn 4 = .ok (.iconst 0, 1) := by decide +kernel
theorem dX2_learn_5 : decode cX2_learn 5 = .ok (.istore_n 2, 1) := by decide +kernel
theorem dX2_learn_6 : decode cX2_learn 6 = .ok (.iload_n 2, 1) := by decide +kernel
theorem dX2_learn_7 : decode cX2_learn 7 = .ok (.bipush 12, 2) := by decide +kernel
theorem dX2_learn_9 : decode cX2_learn 9 = .ok (.if_icmp .gt 53, 3) := by decide +kernel
theorem dX2_learn_12 : decode cX2_learn 12 = .ok (.aload_n 1, 1) := by decide +kernel
theorem dX2_learn_13 : decode cX2_learn 13 = .ok (.invokevirtual 33, 3) := by decide +kernel
theorem dX2_learn_16 : decode cX2_learn 16 = .ok (.aload_n 1, 1) := by decide +kernel
theorem dX2_learn_17 : decode cX2_learn 17 = .ok (.getfield 36, 3) := by decide +kernel
theorem dX2_learn_20 : decode cX2_learn 20 = .ok (.getstatic 40, 3) := by decide +kernel
theorem dX2_learn_23 : decode cX2_learn 23 = .ok (.if_acmp .ne 10, 3) := by decide +kernel
theorem dX2_learn_26 : decode cX2_learn 26 = .ok (.aload_n 0, 1) := by decide +kernel
theorem dX2_learn_27 : decode cX2_learn 27 = .ok (.iload_n 2, 1) := by decide +kernel
theorem dX2_learn_28 : decode cX2_learn 28 = .ok (.aload_n 1, 1) := by decide +kernel
theorem dX2_learn_29 : decode cX2_learn 29 = .ok (.invokevirtual 45, 3) := by decide +kernel
theorem dX2_learn_32 : decode cX2_learn 32 = .ok (.ireturn, 1) := by decide +kernel
theorem dX2_learn_33 : decode cX2_learn 33 = .ok (.iload_n 2, 1) := by decide +kernel
theorem dX2_learn_34 : decode cX2_learn 34 = .ok (.bipush 12, 2) := by decide +kernel
theorem dX2_learn_36 : decode cX2_learn 36 = .ok (.if_icmp .eq 12, 3) := by decide +kernel
theorem dX2_learn_39 : decode cX2_learn 39 = .ok (.aload_n 0, 1) := by decide +kernel
theorem dX2_learn_40 : decode cX2_learn 40 = .ok (.aload_n 1, 1) := by decide +kernel
theorem dX2_learn_41 : decode cX2_learn 41 = .ok (.iload_n 2, 1) := by decide +kernel
theorem dX2_learn_42 : decode cX2_learn 42 = .ok (.invokevirtual 49, 3) := by decide +kernel
theorem dX2_learn_45 : decode cX2_learn 45 = .ok (.ifCond .ne 11, 3) := by decide +kernel
theorem dX2_learn_48 : decode cX2_learn 48 = .ok (.bipush (-10), 2) := by decide +kernel
theorem dX2_learn_50 : decode cX2_learn 50 = .ok (.aload_n 1, 1) := by decide +kernel
theorem dX2_learn_51 : decode cX2_learn 51 = .ok (.getfield 53, 3) := by decide +kernel
theorem dX2_learn_54 : decode cX2_learn 54 = .ok (.isub, 1) := by decide +kernel
theorem dX2_learn_55 : decode cX2_learn 55 = .ok (.ireturn, 1) := by decide +kernel
theorem dX2_learn_56 : decode cX2_learn 56 = .ok (.iinc 2 1, 3) := by decide +kernel
theorem dX2_learn_59 : decode cX2_learn 59 = .ok (.goto (-53), 3) := by decide +kernel
theorem dX2_learn_62 : decode cX2_learn 62 = .ok (.bipush (-10), 2) := by decide +kernel
theorem dX2_learn_64 : decode cX2_learn 64 = .ok (.aload_n 1, 1) := by decide +kernel
theorem dX2_learn_65 : decode cX2_learn 65 = .ok (.getfield 53, 3) := by decide +kernel
theorem dX2_learn_68 : decode cX2_learn 68 = .ok (.isub, 1) := by decide +kernel
theorem dX2_learn_69 : decode cX2_learn 69 = .ok (.ireturn, 1) := by decide +kernel
set_option maxRecDepth 20000 in
theorem ggX2_keep_X6_empty : GoodIn wsX2_keep wsX6_empty := goodIn_r _ [14, 15, 21, 22, 23, 24, 25, 26] (by decide +kernel) (by decide +kernel)
set_option maxRecDepth 20000 in
theorem gX2_keep_X6_empty : GoodIn wsX2_keep (wsV RX2 62 RX6 yX6_empty wsX6_empty) := goodIn_app (goodIn_of _ (by decide +kernel)) ggX2_keep_X6_empty
theorem dX2_keep_0 : decode cX2_keep 0 = .ok (.aload_n 0, 1) := by decide +kernel
theorem dX2_keep_1 : decode cX2_keep 1 = .ok (.getfield 18, 3) := by decide +kernel
theorem dX2_keep_4 : decode cX2_keep 4 = .ok (.iconst 0, 1) := by decide +kernel
theorem dX2_keep_5 : decode cX2_keep 5 = .ok (.aload_n 0, 1) := by decide +kernel
theorem dX2_keep_6 : decode cX2_keep 6 = .ok (.getfield 9, 3) := by decide +kernel
theorem dX2_keep_9 : decode cX2_keep 9 = .ok (.iconst 0, 1) := by decide +kernel
theorem dX2_keep_10 : decode cX2_keep 10 = .ok (.bipush 12, 2) := by decide +kernel
theorem dX2_keep_12 : decode cX2_keep 12 = .ok (.invokestatic 56, 3) := by decide +kernel
theorem dX2_keep_15 : decode cX2_keep 15 = .ok (.aload_n 0, 1) := by decide +kernel
theorem dX2_keep_16 : decode cX2_keep 16 = .ok (.getfield 21, 3) := by decide +kernel
theorem dX2_keep_19 : decode cX2_keep 19 = .ok (.iconst 0, 1) := by decide +kernel
theorem dX2_keep_20 : decode cX2_keep 20 = .ok (.aload_n 0, 1) := by decide +kernel
theorem dX2_keep_21 : decode cX2_keep 21 = .ok (.getfield 15, 3) := by decide +kernel
theorem dX2_keep_24 : decode cX2_keep 24 = .ok (.iconst 0, 1) := by decide +kernel
theorem dX2_keep_25 : decode cX2_keep 25 = .ok (.bipush 12, 2) := by decide +kernel
theorem dX2_keep_27 : decode cX2_keep 27 = .ok (.invokestatic 56, 3) := by decide +kernel
theorem dX2_keep_30 : decode cX2_keep 30 = .ok (.aload_n 0, 1) := by decide +kernel
theorem dX2_keep_31 : decode cX2_keep 31 = .ok (.iload_n 1, 1) := by decide +kernel
theorem dX2_keep_32 : decode cX2_keep 32 = .ok (.putfield 24, 3) := by decide +kernel
theorem dX2_keep_35 : decode cX2_keep 35 = .ok (.aload_n 2, 1) := by decide +kernel
theorem dX2_keep_36 : decode cX2_keep 36 = .ok (.invokevirtual 62, 3) := by decide +kernel
theorem dX2_keep_39 : decode cX2_keep 39 = .ok (.pop, 1) := by decide +kernel
theorem dX2_keep_40 : decode cX2_keep 40 = .ok (.aload_n 0, 1) := by decide +kernel
theorem dX2_keep_41 : decode cX2_keep 41 = .ok (.getfield 24, 3) := by decide +kernel
theorem dX2_keep_44 : decode cX2_keep 44 = .ok (.ireturn, 1) := by decide +kernel
set_option maxRecDepth 20000 in
theorem ggX2_readFind_X6_advance : GoodIn wsX2_readFind wsX6_advance := goodIn_r _ [12, 13, 14, 15, 16, 17, 18, 19, 20, 21, 22, 23, 11, 24, 25, 26, 27, 28, 29, 30, 31, 32, 33, 34, 35, 36, 37, 38, 39, 40, 41, 42, 43, 44, 45, 46, 47, 48, 49, 50, 51, 52, 53, 54, 55, 56, 57, 58, 59, 60, 61, 62, 63, 64, 65, 66, 67, 68, 69, 70, 71, 72, 73, 74, 75, 76, 77, 78, 79, 80, 81, 82, 83, 84, 85, 86, 87, 88, 89, 90, 91, 92, 93, 94, 95, 96, 97, 98, 99, 100, 101, 102, 103, 107, 108, 109, 110, 111, 112] (by decide +kernel) (by decide +kernel)
set_option maxRecDepth 20000 in
theorem gX2_readFind_X6_advance : GoodIn wsX2_readFind (wsV RX2 33 RX6 yX6_advance wsX6_advance) := goodIn_app (goodIn_of _ (by decide +kernel)) ggX2_readFind_X6_advance
set_option maxRecDepth 20000 in
theorem ggX2_readFind_X9_within : GoodIn wsX2_readFind wsX9_within := goodIn_r _ [106] (by decide +kernel) (by decide +kernel)
set_option maxRecDepth 20000 in
theorem gX2_readFind_X9_within_n81 : GoodIn wsX2_readFind (wsX9_within) := ggX2_readFind_X9_within
theorem dX2_readFind_0 : decode cX2_readFind 0 = .ok (.aload_n 1, 1) := by decide +kernel
theorem dX2_readFind_1 : decode cX2_readFind 1 = .ok (.getfield 36, 3) := by decide +kernel
theorem dX2_readFind_4 : decode cX2_readFind 4 = .ok (.getstatic 66, 3) := by decide +kernel
theorem dX2_readFind_7 : decode cX2_readFind 7 = .ok (.if_acmp .ne 7, 3) := by decide +kernel
theorem dX2_readFind_10 : decode cX2_readFind 10 = .ok (.iconst 1, 1) := by decide +kernel
theorem dX2_readFind_11 : decode cX2_readFind 11 = .ok (.goto 4, 3) := by decide +kernel
theorem dX2_readFind_14 : decode cX2_readFind 14 = .ok (.iconst 0, 1) := by decide +kernel
theorem dX2_readFind_15 : decode cX2_readFind 15 = .ok (.istore_n 3, 1) := by decide +kernel
theorem dX2_readFind_16 : decode cX2_readFind 16 = .ok (.iload_n 3, 1) := by decide +kernel
theorem dX2_readFind_17 : decode cX2_readFind 17 = .ok (.ifCond .ne 15, 3) := by decide +kernel
theorem dX2_readFind_20 : decode cX2_readFind 20 = .ok (.aload_n 1, 1) := by decide +kernel
theorem dX2_readFind_21 : decode cX2_readFind 21 = .ok (.getfield 36, 3) := by decide +kernel
theorem dX2_readFind_24 : decode cX2_readFind 24 = .ok (.getstatic 69, 3) := by decide +kernel
theorem dX2_readFind_27 : decode cX2_readFind 27 = .ok (.if_acmp .eq 5, 3) := by decide +kernel
theorem dX2_readFind_30 : decode cX2_readFind 30 = .ok (.iconst 0, 1) := by decide +kernel
theorem dX2_readFind_31 : decode cX2_readFind 31 = .ok (.ireturn, 1) := by decide +kernel
theorem dX2_readFind_32 : decode cX2_readFind 32 = .ok (.aload_n 1, 1) := by decide +kernel
theorem dX2_readFind_33 : decode cX2_readFind 33 = .ok (.invokevirtual 33, 3) := by decide +kernel
theorem dX2_readFind_36 : decode cX2_readFind 36 = .ok (.aload_n 1, 1) := by decide +kernel
theorem dX2_readFind_37 : decode cX2_readFind 37 = .ok (.getfield 36, 3) := by decide +kernel
theorem dX2_readFind_40 : decode cX2_readFind 40 = .ok (.getstatic 72, 3) := by decide +kernel
theorem dX2_readFind_43 : decode cX2_readFind 43 = .ok (.if_acmp .eq 5, 3) := by decide +kernel
theorem dX2_readFind_46 : decode cX2_readFind 46 = .ok (.iconst 0, 1) := by decide +kernel
theorem dX2_readFind_47 : decode cX2_readFind 47 = .ok (.ireturn, 1) := by decide +kernel
theorem dX2_readFind_48 : decode cX2_readFind 48 = .ok (.aload_n 0, 1) := by decide +kernel
theorem dX2_readFind_49 : decode cX2_readFind 49 = .ok (.getfield 18, 3) := by decide +kernel
theorem dX2_readFind_52 : decode cX2_readFind 52 = .ok (.iload_n 2, 1) := by decide +kernel
theorem dX2_readFind_53 : decode cX2_readFind 53 = .ok (.aload_n 1, 1) := by decide +kernel
theorem dX2_readFind_54 : decode cX2_readFind 54 = .ok (.getfield 75, 3) := by decide +kernel
theorem dX2_readFind_57 : decode cX2_readFind 57 = .ok (.iastore, 1) := by decide +kernel
theorem dX2_readFind_58 : decode cX2_readFind 58 = .ok (.aload_n 0, 1) := by decide +kernel
theorem dX2_readFind_59 : decode cX2_readFind 59 = .ok (.getfield 21, 3) := by decide +kernel
theorem dX2_readFind_62 : decode cX2_readFind 62 = .ok (.iload_n 2, 1) := by decide +kernel
theorem dX2_readFind_63 : decode cX2_readFind 63 = .ok (.bipush 50, 2) := by decide +kernel
theorem dX2_readFind_65 : decode cX2_readFind 65 = .ok (.iastore, 1) := by decide +kernel
theorem dX2_readFind_66 : decode cX2_readFind 66 = .ok (.aload_n 1, 1) := by decide +kernel
theorem dX2_readFind_67 : decode cX2_readFind 67 = .ok (.invokevirtual 33, 3) := by decide +kernel
theorem dX2_readFind_70 : decode cX2_readFind 70 = .ok (.iload_n 3, 1) := by decide +kernel
theorem dX2_readFind_71 : decode cX2_readFind 71 = .ok (.ifCond .eq 42, 3) := by decide +kernel
theorem dX2_readFind_74 : decode cX2_readFind 74 = .ok (.aload_n 1, 1) := by decide +kernel
theorem dX2_readFind_75 : decode cX2_readFind 75 = .ok (.getfield 36, 3) := by decide +kernel
theorem dX2_readFind_78 : decode cX2_readFind 78 = .ok (.getstatic 78, 3) := by decide +kernel
theorem dX2_readFind_81 : decode cX2_readFind 81 = .ok (.if_acmp .ne 16, 3) := by decide +kernel
theorem dX2_readFind_84 : decode cX2_readFind 84 = .ok (.aload_n 1, 1) := by decide +kernel
theorem dX2_readFind_85 : decode cX2_readFind 85 = .ok (.getfield 75, 3) := by decide +kernel
theorem dX2_readFind_88 : decode cX2_readFind 88 = .ok (.iconst 1, 1) := by decide +kernel
theorem dX2_readFind_89 : decode cX2_readFind 89 = .ok (.bipush 50, 2) := by decide +kernel
theorem dX2_readFind_91 : decode cX2_readFind 91 = .ok (.invokestatic 81, 3) := by decide +kernel
theorem dX2_readFind_94 : decode cX2_readFind 94 = .ok (.ifCond .ne 5, 3) := by decide +kernel
theorem dX2_readFind_97 : decode cX2_readFind 97 = .ok (.iconst 0, 1) := by decide +kernel
theorem dX2_readFind_98 : decode cX2_readFind 98 = .ok (.ireturn, 1) := by decide +kernel
theorem dX2_readFind_99 : decode cX2_readFind 99 = .ok (.aload_n 0, 1) := by decide +kernel
theorem dX2_readFind_100 : decode cX2_readFind 100 = .ok (.getfield 21, 3) := by decide +kernel
theorem dX2_readFind_103 : decode cX2_readFind 103 = .ok (.iload_n 2, 1) := by decide +kernel
theorem dX2_readFind_104 : decode cX2_readFind 104 = .ok (.aload_n 1, 1) := by decide +kernel
theorem dX2_readFind_105 : decode cX2_readFind 105 = .ok (.getfield 75, 3) := by decide +kernel
theorem dX2_readFind_108 : decode cX2_readFind 108 = .ok (.iastore, 1) := by decide +kernel
theorem dX2_readFind_109 : decode cX2_readFind 109 = .ok (.aload_n 1, 1) := by decide +kernel
theorem dX2_readFind_110 : decode cX2_readFind 110 = .ok (.invokevirtual 33, 3) := by decide +kernel
theorem dX2_readFind_113 : decode cX2_readFind 113 = .ok (.aload_n 1, 1) := by decide +kernel
theorem dX2_readFind_114 : decode cX2_readFind 114 = .ok (.getfield 36, 3) := by decide +kernel
theorem dX2_readFind_117 : decode cX2_readFind 117 = .ok (.getstatic 85, 3) := by decide +kernel
theorem dX2_readFind_120 : decode cX2_readFind 120 = .ok (.if_acmp .ne 7, 3) := by decide +kernel
theorem dX2_readFind_123 : decode cX2_readFind 123 = .ok (.iconst 1, 1) := by decide +kernel
theorem dX2_readFind_124 : decode cX2_readFind 124 = .ok (.goto 4, 3) := by decide +kernel
theorem dX2_readFind_127 : decode cX2_readFind 127 = .ok (.iconst 0, 1) := by decide +kernel
theorem dX2_readFind_128 : decode cX2_readFind 128 = .ok (.ireturn, 1) := by decide +kernel
theorem dX3_init_0 : decode cX3_init 0 = .ok (.aload_n 0, 1) := by decide +kernel
theorem dX3_init_1 : decode cX3_init 1 = .ok (.invokespecial 3, 3) := by decide +kernel
theorem dX3_init_4 : decode cX3_init 4 = .ok (.aload_n 0, 1) := by decide +kernel
theorem dX3_init_5 : decode cX3_init 5 = .ok (.bipush 24, 2) := by decide +kernel
theorem dX3_init_7 : decode cX3_init 7 = .ok (.newarray .int, 2) := by decide +kernel
theorem dX3_init_9 : decode cX3_init 9 = .ok (.putfield 9, 3) := by decide +kernel
theorem dX3_init_12 : decode cX3_init 12 = .ok (.aload_n 0, 1) := by decide +kernel
theorem dX3_init_13 : decode cX3_init 13 = .ok (.iconst 0, 1) := by decide +kernel
theorem dX3_init_14 : decode cX3_init 14 = .ok (.putfield 15, 3) := by decide +kernel
theorem dX3_init_17 : decode cX3_init 17 = .ok (.return_, 1) := by decide +kernel
theorem dX3_append_0 : decode cX3_append 0 = .ok (.aload_n 0, 1) := by decide +kernel
theorem dX3_append_1 : decode cX3_append 1 = .ok (.getfield 15, 3) := by decide +kernel
theorem dX3_append_4 : decode cX3_append 4 = .ok (.bipush 24, 2) := by decide +kernel
theorem dX3_append_6 : decode cX3_append 6 = .ok (.if_icmp .lt 6, 3) := by decide +kernel
theorem dX3_append_9 : decode cX3_append 9 = .ok (.bipush (-3), 2) := by decide +kernel
theorem dX3_append_11 : decode cX3_append 11 = .ok (.ireturn, 1) := by decide +kernel
theorem dX3_append_12 : decode cX3_append 12 = .ok (.aload_n 0, 1) := by decide +kernel
theorem dX3_append_13 : decode cX3_append 13 = .ok (.getfield 15, 3) := by decide +kernel
theorem dX3_append_16 : decode cX3_append 16 = .ok (.istore_n 2, 1) := by decide +kernel
theorem dX3_append_17 : decode cX3_append 17 = .ok (.iload_n 2, 1) := by decide +kernel
theorem dX3_append_18 : decode cX3_append 18 = .ok (.ifCond .le 35, 3) := by decide +kernel
theorem dX3_append_21 : decode cX3_append 21 = .ok (.aload_n 0, 1) := by decide +kernel
theorem dX3_append_22 : decode cX3_append 22 = .ok (.getfield 9, 3) := by decide +kernel
theorem dX3_append_25 : decode cX3_append 25 = .ok (.iload_n 2, 1) := by decide +kernel
theorem dX3_append_26 : decode cX3_append 26 = .ok (.iconst 1, 1) := by decide +kernel
theorem dX3_append_27 : decode cX3_append 27 = .ok (.isub, 1) := by decide +kernel
theorem dX3_append_28 : decode cX3_append 28 = .ok (.iaload, 1) := by decide +kernel
theorem dX3_append_29 : decode cX3_append 29 = .ok (.iload_n 1, 1) := by decide +kernel
theorem dX3_append_30 : decode cX3_append 30 = .ok (.if_icmp .le 23, 3) := by decide +kernel
theorem dX3_append_33 : decode cX3_append 33 = .ok (.aload_n 0, 1) := by decide +kernel
theorem dX3_append_34 : decode cX3_append 34 = .ok (.getfield 9, 3) := by decide +kernel
theorem dX3_append_37 : decode cX3_append 37 = .ok (.iload_n 2, 1) := by decide +kernel
theorem dX3_append_38 : decode cX3_append 38 = .ok (.aload_n 0, 1) := by decide +kernel
theorem dX3_append_39 : decode cX3_append 39 = .ok (.getfield 9, 3) := by decide +kernel
theorem dX3_append_42 : decode cX3_append 42 = .ok (.iload_n 2, 1) := by decide +kernel
theorem dX3_append_43 : decode cX3_append 43 = .ok (.iconst 1, 1) := by decide +kernel
theorem dX3_append_44 : decode cX3_append 44 = .ok (.isub, 1) := by decide +kernel
theorem dX3_append_45 : decode cX3_append 45 = .ok (.iaload, 1) := by decide +kernel
theorem dX3_append_46 : decode cX3_append 46 = .ok (.iastore, 1) := by decide +kernel
theorem dX3_append_47 : decode cX3_append 47 = .ok (.iinc 2 (-1), 3) := by decide +kernel
theorem dX3_append_50 : decode cX3_append 50 = .ok (.goto (-33), 3) := by decide +kernel
theorem dX3_append_53 : decode cX3_append 53 = .ok (.aload_n 0, 1) := by decide +kernel
theorem dX3_append_54 : decode cX3_append 54 = .ok (.getfield 9, 3) := by decide +kernel
theorem dX3_append_57 : decode cX3_append 57 = .ok (.iload_n 2, 1) := by decide +kernel
theorem dX3_append_58 : decode cX3_append 58 = .ok (.iload_n 1, 1) := by decide +kernel
theorem dX3_append_59 : decode cX3_append 59 = .ok (.iastore, 1) := by decide +kernel
theorem dX3_append_60 : decode cX3_append 60 = .ok (.aload_n 0, 1) := by decide +kernel
theorem dX3_append_61 : decode cX3_append 61 = .ok (.dup, 1) := by decide +kernel
theorem dX3_append_62 : decode cX3_append 62 = .ok (.getfield 15, 3) := by decide +kernel
theorem dX3_append_65 : decode cX3_append 65 = .ok (.iconst 1, 1) := by decide +kernel
theorem dX3_append_66 : decode cX3_append 66 = .ok (.iadd, 1) := by decide +kernel
theorem dX3_append_67 : decode cX3_append 67 = .ok (.putfield 15, 3) := by decide +kernel
theorem dX3_append_70 : decode cX3_append 70 = .ok (.aload_n 0, 1) := by decide +kernel
theorem dX3_append_71 : decode cX3_append 71 = .ok (.getfield 15, 3) := by decide +kernel
theorem dX3_append_74 : decode cX3_append 74 = .ok (.ireturn, 1) := by decide +kernel
theorem dX3_holding_0 : decode cX3_holding 0 = .ok (.iconst 0, 1) := by decide +kernel
theorem dX3_holding_1 : decode cX3_holding 1 = .ok (.istore_n 2, 1) := by decide +kernel
theorem dX3_holding_2 : decode cX3_holding 2 = .ok (.iconst 0, 1) := by decide +kernel
theorem dX3_holding_3 : decode cX3_holding 3 = .ok (.istore_n 3, 1) := by decide +kernel
theorem dX3_holding_4 : decode cX3_holding 4 = .ok (.iload_n 3, 1) := by decide +kernel
theorem dX3_holding_5 : decode cX3_holding 5 = .ok (.aload_n 0, 1) := by decide +kernel
theorem dX3_holding_6 : decode cX3_holding 6 = .ok (.getfield 15, 3) := by decide +kernel
theorem dX3_holding_9 : decode cX3_holding 9 = .ok (.if_icmp .ge 22, 3) := by decide +kernel
theorem dX3_holding_12 : decode cX3_holding 12 = .ok (.aload_n 0, 1) := by decide +kernel
theorem dX3_holding_13 : decode cX3_holding 13 = .ok (.getfield 9, 3) := by decide +kernel
theorem dX3_holding_16 : decode cX3_holding 16 = .ok (.iload_n 3, 1) := by decide +kernel
theorem dX3_holding_17 : decode cX3_holding 17 = .ok (.iaload, 1) := by decide +kernel
theorem dX3_holding_18 : decode cX3_holding 18 = .ok (.iload_n 1, 1) := by decide +kernel
theorem dX3_holding_19 : decode cX3_holding 19 = .ok (.if_icmp .gt 6, 3) := by decide +kernel
theorem dX3_holding_22 : decode cX3_holding 22 = .ok (.iinc 2 1, 3) := by decide +kernel
theorem dX3_holding_25 : decode cX3_holding 25 = .ok (.iinc 3 1, 3) := by decide +kernel
theorem dX3_holding_28 : decode cX3_holding 28 = .ok (.goto (-24), 3) := by decide +kernel
theorem dX3_holding_31 : decode cX3_holding 31 = .ok (.iload_n 2, 1) := by decide +kernel
theorem dX3_holding_32 : decode cX3_holding 32 = .ok (.ireturn, 1) := by decide +kernel
theorem dX3_needFor_0 : decode cX3_needFor 0 = .ok (.iload_n 1, 1) := by decide +kernel
theorem dX3_needFor_1 : decode cX3_needFor 1 = .ok (.aload_n 0, 1) := by decide +kernel
theorem dX3_needFor_2 : decode cX3_needFor 2 = .ok (.getfield 15, 3) := by decide +kernel
theorem dX3_needFor_5 : decode cX3_needFor 5 = .ok (.if_icmp .le 6, 3) := by decide +kernel
theorem dX3_needFor_8 : decode cX3_needFor 8 = .ok (.bipush (-9), 2) := by decide +kernel
theorem dX3_needFor_10 : decode cX3_needFor 10 = .ok (.ireturn, 1) := by decide +kernel
theorem dX3_needFor_11 : decode cX3_needFor 11 = .ok (.iload_n 1, 1) := by decide +kernel
theorem dX3_needFor_12 : decode cX3_needFor 12 = .ok (.iconst 1, 1) := by decide +kernel
theorem dX3_needFor_13 : decode cX3_needFor 13 = .ok (.if_icmp .ge 7, 3) := by decide +kernel
theorem dX3_needFor_16 : decode cX3_needFor 16 = .ok (.iconst 0, 1) := by decide +kernel
theorem dX3_needFor_17 : decode cX3_needFor 17 = .ok (.goto 11, 3) := by decide +kernel
theorem dX3_needFor_20 : decode cX3_needFor 20 = .ok (.aload_n 0, 1) := by decide +kernel
theorem dX3_needFor_21 : decode cX3_needFor 21 = .ok (.getfield 9, 3) := by decide +kernel
theorem dX3_needFor_24 : decode cX3_needFor 24 = .ok (.iload_n 1, 1) := by decide +kernel
theorem dX3_needFor_25 : decode cX3_needFor 25 = .ok (.iconst 1, 1) := by decide +kernel
theorem dX3_needFor_26 : decode cX3_needFor 26 = .ok (.isub, 1) := by decide +kernel
theorem dX3_needFor_27 : decode cX3_needFor 27 = .ok (.iaload, 1) := by decide +kernel
theorem dX3_needFor_28 : decode cX3_needFor 28 = .ok (.ireturn, 1) := by decide +kernel
theorem dX3_empty_0 : decode cX3_empty 0 = .ok (.aload_n 0, 1) := by decide +kernel
theorem dX3_empty_1 : decode cX3_empty 1 = .ok (.iconst 0, 1) := by decide +kernel
theorem dX3_empty_2 : decode cX3_empty 2 = .ok (.putfield 15, 3) := by decide +kernel
theorem dX3_empty_5 : decode cX3_empty 5 = .ok (.return_, 1) := by decide +kernel
set_option maxRecDepth 20000 in
theorem ggX4_init_J7_fill_53178 : GoodIn wsX4_init wsJ7_fill_53178 := goodIn_r _ [10] (by decide +kernel) (by decide +kernel)
set_option maxRecDepth 20000 in
theorem gX4_init_J7_fill_53178 : GoodIn wsX4_init (va_wsS RX4 18 yJ7_fill_53178 wsJ7_fill_53178) := goodIn_app (goodIn_of _ (by decide +kernel)) ggX4_init_J7_fill_53178
theorem dX4_init_0 : decode cX4_init 0 = .ok (.aload_n 0, 1) := by decide +kernel
theorem dX4_init_1 : decode cX4_init 1 = .ok (.invokespecial 3, 3) := by decide +kernel
theorem dX4_init_4 : decode cX4_init 4 = .ok (.aload_n 0, 1) := by decide +kernel
theorem dX4_init_5 : decode cX4_init 5 = .ok (.bipush 32, 2) := by decide +kernel
theorem dX4_init_7 : decode cX4_init 7 = .ok (.newarray .int, 2) := by decide +kernel
theorem dX4_init_9 : decode cX4_init 9 = .ok (.putfield 9, 3) := by decide +kernel
theorem dX4_init_12 : decode cX4_init 12 = .ok (.aload_n 0, 1) := by decide +kernel
theorem dX4_init_13 : decode cX4_init 13 = .ok (.bipush 8, 2) := by decide +kernel
theorem dX4_init_15 : decode cX4_init 15 = .ok (.newarray .int, 2) := by decide +kernel
theorem dX4_init_17 : decode cX4_init 17 = .ok (.putfield 15, 3) := by decide +kernel
theorem dX4_init_20 : decode cX4_init 20 = .ok (.aload_n 0, 1) := by decide +kernel
theorem dX4_init_21 : decode cX4_init 21 = .ok (.getfield 15, 3) := by decide +kernel
theorem dX4_init_24 : decode cX4_init 24 = .ok (.bipush 100, 2) := by decide +kernel
theorem dX4_init_26 : decode cX4_init 26 = .ok (.invokestatic 18, 3) := by decide +kernel
theorem dX4_init_29 : decode cX4_init 29 = .ok (.return_, 1) := by decide +kernel
set_option maxRecDepth 20000 in
theorem ggX4_settle_X4_of : GoodIn wsX4_settle wsX4_of := goodIn_r _ [6, 1, 15, 16] (by decide +kernel) (by decide +kernel)
set_option maxRecDepth 20000 in
theorem gX4_settle_X4_of : GoodIn wsX4_settle (wsV RX4 24 RX4 yX4_of wsX4_of) := goodIn_app (goodIn_of _ (by decide +kernel)) ggX4_settle_X4_of
set_option maxRecDepth 20000 in
theorem ggX4_settle_X4_having : GoodIn wsX4_settle wsX4_having := goodIn_r _ [10, 11, 12, 13, 5, 14, 2, 3, 4, 6, 1, 15, 16] (by decide +kernel) (by decide +kernel)
set_option maxRecDepth 20000 in
theorem gX4_settle_X4_having : GoodIn wsX4_settle (wsV RX4 28 RX4 yX4_having wsX4_having) := goodIn_app (goodIn_of _ (by decide +kernel)) ggX4_settle_X4_having
theorem dX4_settle_0 : decode cX4_settle 0 = .ok (.aload_n 0, 1) := by decide +kernel
theorem dX4_settle_1 : decode cX4_settle 1 = .ok (.iload_n 1, 1) := by decide +kernel
theorem dX4_settle_2 : decode cX4_settle 2 = .ok (.iload_n 2, 1) := by decide +kernel
theorem dX4_settle_3 : decode cX4_settle 3 = .ok (.invokevirtual 24, 3) := by decide +kernel
theorem dX4_settle_6 : decode cX4_settle 6 = .ok (.istore 4, 2) := by decide +kernel
theorem dX4_settle_8 : decode cX4_settle 8 = .ok (.aload_n 0, 1) := by decide +kernel
theorem dX4_settle_9 : decode cX4_settle 9 = .ok (.iload_n 1, 1) := by decide +kernel
theorem dX4_settle_10 : decode cX4_settle 10 = .ok (.iconst 0, 1) := by decide +kernel
theorem dX4_settle_11 : decode cX4_settle 11 = .ok (.invokevirtual 28, 3) := by decide +kernel
theorem dX4_settle_14 : decode cX4_settle 14 = .ok (.iload 4, 2) := by decide +kernel
theorem dX4_settle_16 : decode cX4_settle 16 = .ok (.isub, 1) := by decide +kernel
theorem dX4_settle_17 : decode cX4_settle 17 = .ok (.iload_n 3, 1) := by decide +kernel
theorem dX4_settle_18 : decode cX4_settle 18 = .ok (.iadd, 1) := by decide +kernel
theorem dX4_settle_19 : decode cX4_settle 19 = .ok (.bipush 50, 2) := by decide +kernel
theorem dX4_settle_21 : decode cX4_settle 21 = .ok (.if_icmp .le 6, 3) := by decide +kernel
theorem dX4_settle_24 : decode cX4_settle 24 = .ok (.bipush (-3), 2) := by decide +kernel
theorem dX4_settle_26 : decode cX4_settle 26 = .ok (.ireturn, 1) := by decide +kernel
theorem dX4_settle_27 : decode cX4_settle 27 = .ok (.aload_n 0, 1) := by decide +kernel
theorem dX4_settle_28 : decode cX4_settle 28 = .ok (.getfield 9, 3) := by decide +kernel
theorem dX4_settle_31 : decode cX4_settle 31 = .ok (.iload_n 1, 1) := by decide +kernel
theorem dX4_settle_32 : decode cX4_settle 32 = .ok (.bipush 8, 2) := by decide +kernel
theorem dX4_settle_34 : decode cX4_settle 34 = .ok (.imul, 1) := by decide +kernel
theorem dX4_settle_35 : decode cX4_settle 35 = .ok (.iload_n 2, 1) := by decide +kernel
theorem dX4_settle_36 : decode cX4_settle 36 = .ok (.iadd, 1) := by decide +kernel
theorem dX4_settle_37 : decode cX4_settle 37 = .ok (.iload_n 3, 1) := by decide +kernel
theorem dX4_settle_38 : decode cX4_settle 38 = .ok (.iastore, 1) := by decide +kernel
theorem dX4_settle_39 : decode cX4_settle 39 = .ok (.iload 4, 2) := by decide +kernel
theorem dX4_settle_41 : decode cX4_settle 41 = .ok (.ireturn, 1) := by decide +kernel
theorem dX4_changeRate_0 : decode cX4_changeRate 0 = .ok (.aload_n 0, 1) := by decide +kernel
theorem dX4_changeRate_1 : decode cX4_changeRate 1 = .ok (.getfield 15, 3) := by decide +kernel
theorem dX4_changeRate_4 : decode cX4_changeRate 4 = .ok (.iload_n 1, 1) := by decide +kernel
theorem dX4_changeRate_5 : decode cX4_changeRate 5 = .ok (.iaload, 1) := by decide +kernel
theorem dX4_changeRate_6 : decode cX4_changeRate 6 = .ok (.istore_n 3, 1) := by decide +kernel
theorem dX4_changeRate_7 : decode cX4_changeRate 7 = .ok (.aload_n 0, 1) := by decide +kernel
theorem dX4_changeRate_8 : decode cX4_changeRate 8 = .ok (.getfield 15, 3) := by decide +kernel
theorem dX4_changeRate_11 : decode cX4_changeRate 11 = .ok (.iload_n 1, 1) := by decide +kernel
theorem dX4_changeRate_12 : decode cX4_changeRate 12 = .ok (.iload_n 2, 1) := by decide +kernel
theorem dX4_changeRate_13 : decode cX4_changeRate 13 = .ok (.iastore, 1) := by decide +kernel
theorem dX4_changeRate_14 : decode cX4_changeRate 14 = .ok (.iload_n 3, 1) := by decide +kernel
theorem dX4_changeRate_15 : decode cX4_changeRate 15 = .ok (.ireturn, 1) := by decide +kernel
theorem dX4_of_0 : decode cX4_of 0 = .ok (.aload_n 0, 1) := by decide +kernel
theorem dX4_of_1 : decode cX4_of 1 = .ok (.getfield 9, 3) := by decide +kernel
theorem dX4_of_4 : decode cX4_of 4 = .ok (.iload_n 1, 1) := by decide +kernel
theorem dX4_of_5 : decode cX4_of 5 = .ok (.bipush 8, 2) := by decide +kernel
theorem dX4_of_7 : decode cX4_of 7 = .ok (.imul, 1) := by decide +kernel
theorem dX4_of_8 : decode cX4_of 8 = .ok (.iload_n 2, 1) := by decide +kernel
theorem dX4_of_9 : decode cX4_of 9 = .ok (.iadd, 1) := by decide +kernel
theorem dX4_of_10 : decode cX4_of 10 = .ok (.iaload, 1) := by decide +kernel
theorem dX4_of_11 : decode cX4_of 11 = .ok (.ireturn, 1) := by decide +kernel
set_option maxRecDepth 20000 in
theorem ggX4_matching_X4_of : GoodIn wsX4_matching wsX4_of := goodIn_r _ [5, 6, 7, 8] (by decide +kernel) (by decide +kernel)
set_option maxRecDepth 20000 in
theorem gX4_matching_X4_of : GoodIn wsX4_matching (wsV RX4 24 RX4 yX4_of wsX4_of) := goodIn_app (goodIn_of _ (by decide +kernel)) ggX4_matching_X4_of
theorem dX4_matching_0 : decode cX4_matching 0 = .ok (.iconst 0, 1) := by decide +kernel
theorem dX4_matching_1 : decode cX4_matching 1 = .ok (.istore 4, 2) := by decide +kernel
theorem dX4_matching_3 : decode cX4_matching 3 = .ok (.iconst 0, 1) := by decide +kernel
theorem dX4_matching_4 : decode cX4_matching 4 = .ok (.istore 5, 2) := by decide +kernel
theorem dX4_matching_6 : decode cX4_matching 6 = .ok (.iload 5, 2) := by decide +kernel
theorem dX4_matching_8 : decode cX4_matching 8 = .ok (.bipush 8, 2) := by decide +kernel
theorem dX4_matching_10 : decode cX4_matching 10 = .ok (.if_icmp .ge 29, 3) := by decide +kernel
theorem dX4_matching_13 : decode cX4_matching 13 = .ok (.iload 5, 2) := by decide +kernel
theorem dX4_matching_15 : decode cX4_matching 15 = .ok (.iload_n 2, 1) := by decide +kernel
theorem dX4_matching_16 : decode cX4_matching 16 = .ok (.iand, 1) := by decide +kernel
theorem dX4_matching_17 : decode cX4_matching 17 = .ok (.iload_n 3, 1) := by decide +kernel
theorem dX4_matching_18 : decode cX4_matching 18 = .ok (.if_icmp .ne 15, 3) := by decide +kernel
theorem dX4_matching_21 : decode cX4_matching 21 = .ok (.iload 4, 2) := by decide +kernel
theorem dX4_matching_23 : decode cX4_matching 23 = .ok (.aload_n 0, 1) := by decide +kernel
theorem dX4_matching_24 : decode cX4_matching 24 = .ok (.iload_n 1, 1) := by decide +kernel
theorem dX4_matching_25 : decode cX4_matching 25 = .ok (.iload 5, 2) := by decide +kernel
theorem dX4_matching_27 : decode cX4_matching 27 = .ok (.invokevirtual 24, 3) := by decide +kernel
theorem dX4_matching_30 : decode cX4_matching 30 = .ok (.iadd, 1) := by decide +kernel
theorem dX4_matching_31 : decode cX4_matching 31 = .ok (.istore 4, 2) := by decide +kernel
theorem dX4_matching_33 : decode cX4_matching 33 = .ok (.iinc 5 1, 3) := by decide +kernel
theorem dX4_matching_36 : decode cX4_matching 36 = .ok (.goto (-30), 3) := by decide +kernel
theorem dX4_matching_39 : decode cX4_matching 39 = .ok (.iload 4, 2) := by decide +kernel
theorem dX4_matching_41 : decode cX4_matching 41 = .ok (.ireturn, 1) := by decide +kernel
set_option maxRecDepth 20000 in
theorem ggX4_having_X4_matching : GoodIn wsX4_having wsX4_matching := goodIn_r _ [5, 6, 7, 8, 4, 9, 10, 11, 12] (by decide +kernel) (by decide +kernel)
set_option maxRecDepth 20000 in
theorem gX4_having_X4_matching : GoodIn wsX4_having (wsV RX4 31 RX4 yX4_matching wsX4_matching) := goodIn_app (goodIn_of _ (by decide +kernel)) ggX4_having_X4_matching
theorem dX4_having_0 : decode cX4_having 0 = .ok (.aload_n 0, 1) := by decide +kernel
theorem dX4_having_1 : decode cX4_having 1 = .ok (.iload_n 1, 1) := by decide +kernel
theorem dX4_having_2 : decode cX4_having 2 = .ok (.iload_n 2, 1) := by decide +kernel
theorem dX4_having_3 : decode cX4_having 3 = .ok (.iload_n 2, 1) := by decide +kernel
theorem dX4_having_4 : decode cX4_having 4 = .ok (.invokevirtual 31, 3) := by decide +kernel
theorem dX4_having_7 : decode cX4_having 7 = .ok (.ireturn, 1) := by decide +kernel
set_option maxRecDepth 20000 in
theorem ggX4_back_X4_of : GoodIn wsX4_back wsX4_of := goodIn_r _ [6, 7, 8, 9] (by decide +kernel) (by decide +kernel)
set_option maxRecDepth 20000 in
theorem gX4_back_X4_of : GoodIn wsX4_back (wsV RX4 24 RX4 yX4_of wsX4_of) := goodIn_app (goodIn_of _ (by decide +kernel)) ggX4_back_X4_of
theorem dX4_back_0 : decode cX4_back 0 = .ok (.iconst 0, 1) := by decide +kernel
theorem dX4_back_1 : decode cX4_back 1 = .ok (.istore_n 3, 1) := by decide +kernel
theorem dX4_back_2 : decode cX4_back 2 = .ok (.iconst 4, 1) := by decide +kernel
theorem dX4_back_3 : decode cX4_back 3 = .ok (.istore 4, 2) := by decide +kernel
theorem dX4_back_5 : decode cX4_back 5 = .ok (.iload 4, 2) := by decide +kernel
theorem dX4_back_7 : decode cX4_back 7 = .ok (.bipush 8, 2) := by decide +kernel
theorem dX4_back_9 : decode cX4_back 9 = .ok (.if_icmp .ge 38, 3) := by decide +kernel
theorem dX4_back_12 : decode cX4_back 12 = .ok (.iload 4, 2) := by decide +kernel
theorem dX4_back_14 : decode cX4_back 14 = .ok (.iload_n 2, 1) := by decide +kernel
theorem dX4_back_15 : decode cX4_back 15 = .ok (.iand, 1) := by decide +kernel
theorem dX4_back_16 : decode cX4_back 16 = .ok (.iload_n 2, 1) := by decide +kernel
theorem dX4_back_17 : decode cX4_back 17 = .ok (.if_icmp .ne 24, 3) := by decide +kernel
theorem dX4_back_20 : decode cX4_back 20 = .ok (.iload_n 3, 1) := by decide +kernel
theorem dX4_back_21 : decode cX4_back 21 = .ok (.aload_n 0, 1) := by decide +kernel
theorem dX4_back_22 : decode cX4_back 22 = .ok (.iload_n 1, 1) := by decide +kernel
theorem dX4_back_23 : decode cX4_back 23 = .ok (.iload 4, 2) := by decide +kernel
theorem dX4_back_25 : decode cX4_back 25 = .ok (.invokevirtual 24, 3) := by decide +kernel
theorem dX4_back_28 : decode cX4_back 28 = .ok (.aload_n 0, 1) := by decide +kernel
theorem dX4_back_29 : decode cX4_back 29 = .ok (.getfield 15, 3) := by decide +kernel
theorem dX4_back_32 : decode cX4_back 32 = .ok (.iload 4, 2) := by decide +kernel
theorem dX4_back_34 : decode cX4_back 34 = .ok (.iaload, 1) := by decide +kernel
theorem dX4_back_35 : decode cX4_back 35 = .ok (.imul, 1) := by decide +kernel
theorem dX4_back_36 : decode cX4_back 36 = .ok (.bipush 100, 2) := by decide +kernel
theorem dX4_back_38 : decode cX4_back 38 = .ok (.idiv, 1) := by decide +kernel
theorem dX4_back_39 : decode cX4_back 39 = .ok (.iadd, 1) := by decide +kernel
theorem dX4_back_40 : decode cX4_back 40 = .ok (.istore_n 3, 1) := by decide +kernel
theorem dX4_back_41 : decode cX4_back 41 = .ok (.iinc 4 1, 3) := by decide +kernel
theorem dX4_back_44 : decode cX4_back 44 = .ok (.goto (-39), 3) := by decide +kernel
theorem dX4_back_47 : decode cX4_back 47 = .ok (.iload_n 3, 1) := by decide +kernel
theorem dX4_back_48 : decode cX4_back 48 = .ok (.ireturn, 1) := by decide +kernel
set_option maxRecDepth 20000 in
theorem ggX4_everybody_X4_having : GoodIn wsX4_everybody wsX4_having := goodIn_r _ [5, 6, 7, 8, 4, 9, 10, 11, 12, 13, 14, 15, 16] (by decide +kernel) (by decide +kernel)
set_option maxRecDepth 20000 in
theorem gX4_everybody_X4_having : GoodIn wsX4_everybody (wsV RX4 28 RX4 yX4_having wsX4_having) := goodIn_app (goodIn_of _ (by decide +kernel)) ggX4_everybody_X4_having
theorem dX4_everybody_0 : decode cX4_everybody 0 = .ok (.iconst 0, 1) := by decide +kernel
theorem dX4_everybody_1 : decode cX4_everybody 1 = .ok (.istore_n 1, 1) := by decide +kernel
theorem dX4_everybody_2 : decode cX4_everybody 2 = .ok (.iconst 0, 1) := by decide +kernel
theorem dX4_everybody_3 : decode cX4_everybody 3 = .ok (.istore_n 2, 1) := by decide +kernel
theorem dX4_everybody_4 : decode cX4_everybody 4 = .ok (.iload_n 2, 1) := by decide +kernel
theorem dX4_everybody_5 : decode cX4_everybody 5 = .ok (.iconst 4, 1) := by decide +kernel
theorem dX4_everybody_6 : decode cX4_everybody 6 = .ok (.if_icmp .ge 18, 3) := by decide +kernel
theorem dX4_everybody_9 : decode cX4_everybody 9 = .ok (.iload_n 1, 1) := by decide +kernel
theorem dX4_everybody_10 : decode cX4_everybody 10 = .ok (.aload_n 0, 1) := by decide +kernel
theorem dX4_everybody_11 : decode cX4_everybody 11 = .ok (.iload_n 2, 1) := by decide +kernel
theorem dX4_everybody_12 : decode cX4_everybody 12 = .ok (.iconst 0, 1) := by decide +kernel
theorem dX4_everybody_13 : decode cX4_everybody 13 = .ok (.invokevirtual 28, 3) := by decide +kernel
theorem dX4_everybody_16 : decode cX4_everybody 16 = .ok (.iadd, 1) := by decide +kernel
theorem dX4_everybody_17 : decode cX4_everybody 17 = .ok (.istore_n 1, 1) := by decide +kernel
theorem dX4_everybody_18 : decode cX4_everybody 18 = .ok (.iinc 2 1, 3) := by decide +kernel
theorem dX4_everybody_21 : decode cX4_everybody 21 = .ok (.goto (-17), 3) := by decide +kernel
theorem dX4_everybody_24 : decode cX4_everybody 24 = .ok (.iload_n 1, 1) := by decide +kernel
theorem dX4_everybody_25 : decode cX4_everybody 25 = .ok (.ireturn, 1) := by decide +kernel
set_option maxRecDepth 20000 in
theorem ggX4_smallest_X4_having : GoodIn wsX4_smallest wsX4_having := goodIn_r _ [5, 6, 7, 8, 4, 9, 10, 11, 12, 13, 14, 15, 16] (by decide +kernel) (by decide +kernel)
set_option maxRecDepth 20000 in
theorem gX4_smallest_X4_having : GoodIn wsX4_smallest (wsV RX4 28 RX4 yX4_having wsX4_having) := goodIn_app (goodIn_of _ (by decide +kernel)) ggX4_smallest_X4_having
theorem dX4_smallest_0 : decode cX4_smallest 0 = .ok (.iconst 0, 1) := by decide +kernel
theorem dX4_smallest_1 : decode cX4_smallest 1 = .ok (.istore_n 1, 1) := by decide +kernel
theorem dX4_smallest_2 : decode cX4_smallest 2 = .ok (.iconst 0, 1) := by decide +kernel
theorem dX4_smallest_3 : decode cX4_smallest 3 = .ok (.istore_n 2, 1) := by decide +kernel
theorem dX4_smallest_4 : decode cX4_smallest 4 = .ok (.iload_n 2, 1) := by decide +kernel
theorem dX4_smallest_5 : decode cX4_smallest 5 = .ok (.iconst 4, 1) := by decide +kernel
theorem dX4_smallest_6 : decode cX4_smallest 6 = .ok (.if_icmp .ge 31, 3) := by decide +kernel
theorem dX4_smallest_9 : decode cX4_smallest 9 = .ok (.aload_n 0, 1) := by decide +kernel
theorem dX4_smallest_10 : decode cX4_smallest 10 = .ok (.iload_n 2, 1) := by decide +kernel
theorem dX4_smallest_11 : decode cX4_smallest 11 = .ok (.iconst 0, 1) := by decide +kernel
theorem dX4_smallest_12 : decode cX4_smallest 12 = .ok (.invokevirtual 28, 3) := by decide +kernel
theorem dX4_smallest_15 : decode cX4_smallest 15 = .ok (.istore_n 3, 1) := by decide +kernel
theorem dX4_smallest_16 : decode cX4_smallest 16 = .ok (.iload_n 3, 1) := by decide +kernel
theorem dX4_smallest_17 : decode cX4_smallest 17 = .ok (.ifCond .le 14, 3) := by decide +kernel
theorem dX4_smallest_20 : decode cX4_smallest 20 = .ok (.iload_n 1, 1) := by decide +kernel
theorem dX4_smallest_21 : decode cX4_smallest 21 = .ok (.ifCond .eq 8, 3) := by decide +kernel
theorem dX4_smallest_24 : decode cX4_smallest 24 = .ok (.iload_n 3, 1) := by decide +kernel
theorem dX4_smallest_25 : decode cX4_smallest 25 = .ok (.iload_n 1, 1) := by decide +kernel
theorem dX4_smallest_26 : decode cX4_smallest 26 = .ok (.if_icmp .ge 5, 3) := by decide +kernel
theorem dX4_smallest_29 : decode cX4_smallest 29 = .ok (.iload_n 3, 1) := by decide +kernel
theorem dX4_smallest_30 : decode cX4_smallest 30 = .ok (.istore_n 1, 1) := by decide +kernel
theorem dX4_smallest_31 : decode cX4_smallest 31 = .ok (.iinc 2 1, 3) := by decide +kernel
theorem dX4_smallest_34 : decode cX4_smallest 34 = .ok (.goto (-30), 3) := by decide +kernel
theorem dX4_smallest_37 : decode cX4_smallest 37 = .ok (.iload_n 1, 1) := by decide +kernel
theorem dX4_smallest_38 : decode cX4_smallest 38 = .ok (.ireturn, 1) := by decide +kernel
set_option maxRecDepth 20000 in
theorem ggX4_empty_J7_fill_53178 : GoodIn wsX4_empty wsJ7_fill_53178 := goodIn_r _ [5] (by decide +kernel) (by decide +kernel)
set_option maxRecDepth 20000 in
theorem gX4_empty_J7_fill_53178 : GoodIn wsX4_empty (va_wsS RX4 18 yJ7_fill_53178 wsJ7_fill_53178) := goodIn_app (goodIn_of _ (by decide +kernel)) ggX4_empty_J7_fill_53178
theorem dX4_empty_0 : decode cX4_empty 0 = .ok (.aload_n 0, 1) := by decide +kernel
theorem dX4_empty_1 : decode cX4_empty 1 = .ok (.getfield 9, 3) := by decide +kernel
theorem dX4_empty_4 : decode cX4_empty 4 = .ok (.iconst 0, 1) := by decide +kernel
theorem dX4_empty_5 : decode cX4_empty 5 = .ok (.invokestatic 18, 3) := by decide +kernel
theorem dX4_empty_8 : decode cX4_empty 8 = .ok (.return_, 1) := by decide +kernel
theorem dX5_init_0 : decode cX5_init 0 = .ok (.aload_n 0, 1) := by decide +kernel
theorem dX5_init_1 : decode cX5_init 1 = .ok (.invokespecial 3, 3) := by decide +kernel
theorem dX5_init_4 : decode cX5_init 4 = .ok (.aload_n 0, 1) := by decide +kernel
theorem dX5_init_5 : decode cX5_init 5 = .ok (.sipush 1326, 3) := by decide +kernel
theorem dX5_init_8 : decode cX5_init 8 = .ok (.newarray .long, 2) := by decide +kernel
theorem dX5_init_10 : decode cX5_init 10 = .ok (.putfield 9, 3) := by decide +kernel
theorem dX5_init_13 : decode cX5_init 13 = .ok (.aload_n 0, 1) := by decide +kernel
theorem dX5_init_14 : decode cX5_init 14 = .ok (.bipush 101, 2) := by decide +kernel
theorem dX5_init_16 : decode cX5_init 16 = .ok (.newarray .long, 2) := by decide +kernel
theorem dX5_init_18 : decode cX5_init 18 = .ok (.putfield 15, 3) := by decide +kernel
theorem dX5_init_21 : decode cX5_init 21 = .ok (.iconst 0, 1) := by decide +kernel
theorem dX5_init_22 : decode cX5_init 22 = .ok (.istore_n 1, 1) := by decide +kernel
theorem dX5_init_23 : decode cX5_init 23 = .ok (.iload_n 1, 1) := by decide +kernel
theorem dX5_init_24 : decode cX5_init 24 = .ok (.bipush 50, 2) := by decide +kernel
theorem dX5_init_26 : decode cX5_init 26 = .ok (.if_icmp .gt 77, 3) := by decide +kernel
theorem dX5_init_29 : decode cX5_init 29 = .ok (.iload_n 1, 1) := by decide +kernel
theorem dX5_init_30 : decode cX5_init 30 = .ok (.iload_n 1, 1) := by decide +kernel
theorem dX5_init_31 : decode cX5_init 31 = .ok (.iconst 1, 1) := by decide +kernel
theorem dX5_init_32 : decode cX5_init 32 = .ok (.iadd, 1) := by decide +kernel
theorem dX5_init_33 : decode cX5_init 33 = .ok (.imul, 1) := by decide +kernel
theorem dX5_init_34 : decode cX5_init 34 = .ok (.iconst 2, 1) := by decide +kernel
theorem dX5_init_35 : decode cX5_init 35 = .ok (.idiv, 1) := by decide +kernel
theorem dX5_init_36 : decode cX5_init 36 = .ok (.istore_n 2, 1) := by decide +kernel
theorem dX5_init_37 : decode cX5_init 37 = .ok (.aload_n 0, 1) := by decide +kernel
theorem dX5_init_38 : decode cX5_init 38 = .ok (.getfield 9, 3) := by decide +kernel
theorem dX5_init_41 : decode cX5_init 41 = .ok (.iload_n 2, 1) := by decide +kernel
theorem dX5_init_42 : decode cX5_init 42 = .ok (.lconst 1, 1) := by decide +kernel
theorem dX5_init_43 : decode cX5_init 43 = .ok (.lastore, 1) := by decide +kernel
theorem dX5_init_44 : decode cX5_init 44 = .ok (.aload_n 0, 1) := by decide +kernel
theorem dX5_init_45 : decode cX5_init 45 = .ok (.getfield 9, 3) := by decide +kernel
theorem dX5_init_48 : decode cX5_init 48 = .ok (.iload_n 2, 1) := by decide +kernel
theorem dX5_init_49 : decode cX5_init 49 = .ok (.iload_n 1, 1) := by decide +kernel
theorem dX5_init_50 : decode cX5_init 50 = .ok (.iadd, 1) := by decide +kernel
theorem dX5_init_51 : decode cX5_init 51 = .ok (.lconst 1, 1) := by decide +kernel
theorem dX5_init_52 : decode cX5_init 52 = .ok (.lastore, 1) := by decide +kernel
theorem dX5_init_53 : decode cX5_init 53 = .ok (.iconst 1, 1) := by decide +kernel
theorem dX5_init_54 : decode cX5_init 54 = .ok (.istore_n 3, 1) := by decide +kernel
theorem dX5_init_55 : decode cX5_init 55 = .ok (.iload_n 3, 1) := by decide +kernel
theorem dX5_init_56 : decode cX5_init 56 = .ok (.iload_n 1, 1) := by decide +kernel
theorem dX5_init_57 : decode cX5_init 57 = .ok (.if_icmp .ge 40, 3) := by decide +kernel
theorem dX5_init_60 : decode cX5_init 60 = .ok (.aload_n 0, 1) := by decide +kernel
theorem dX5_init_61 : decode cX5_init 61 = .ok (.getfield 9, 3) := by decide +kernel
theorem dX5_init_64 : decode cX5_init 64 = .ok (.iload_n 2, 1) := by decide +kernel
theorem dX5_init_65 : decode cX5_init 65 = .ok (.iload_n 3, 1) := by decide +kernel
theorem dX5_init_66 : decode cX5_init 66 = .ok (.iadd, 1) := by decide +kernel
theorem dX5_init_67 : decode cX5_init 67 = .ok (.aload_n 0, 1) := by decide +kernel
theorem dX5_init_68 : decode cX5_init 68 = .ok (.getfield 9, 3) := by decide +kernel
theorem dX5_init_71 : decode cX5_init 71 = .ok (.iload_n 2, 1) := by decide +kernel
theorem dX5_init_72 : decode cX5_init 72 = .ok (.iload_n 1, 1) := by decide +kernel
theorem dX5_init_73 : decode cX5_init 73 = .ok (.isub, 1) := by decide +kernel
theorem dX5_init_74 : decode cX5_init 74 = .ok (.iload_n 3, 1) := by decide +kernel
theorem dX5_init_75 : decode cX5_init 75 = .ok (.iadd, 1) := by decide +kernel
theorem dX5_init_76 : decode cX5_init 76 = .ok (.iconst 1, 1) := by decide +kernel
theorem dX5_init_77 : decode cX5_init 77 = .ok (.isub, 1) := by decide +kernel
theorem dX5_init_78 : decode cX5_init 78 = .ok (.laload, 1) := by decide +kernel
theorem dX5_init_79 : decode cX5_init 79 = .ok (.aload_n 0, 1) := by decide +kernel
theorem dX5_init_80 : decode cX5_init 80 = .ok (.getfield 9, 3) := by decide +kernel
theorem dX5_init_83 : decode cX5_init 83 = .ok (.iload_n 2, 1) := by decide +kernel
theorem dX5_init_84 : decode cX5_init 84 = .ok (.iload_n 1, 1) := by decide +kernel
theorem dX5_init_85 : decode cX5_init 85 = .ok (.isub, 1) := by decide +kernel
theorem dX5_init_86 : decode cX5_init 86 = .ok (.iload_n 3, 1) := by decide +kernel
theorem dX5_init_87 : decode cX5_init 87 = .ok (.iadd, 1) := by decide +kernel
theorem dX5_init_88 : decode cX5_init 88 = .ok (.laload, 1) := by decide +kernel
theorem dX5_init_89 : decode cX5_init 89 = .ok (.ladd, 1) := by decide +kernel
theorem dX5_init_90 : decode cX5_init 90 = .ok (.lastore, 1) := by decide +kernel
theorem dX5_init_91 : decode cX5_init 91 = .ok (.iinc 3 1, 3) := by decide +kernel
theorem dX5_init_94 : decode cX5_init 94 = .ok (.goto (-39), 3) := by decide +kernel
theorem dX5_init_97 : decode cX5_init 97 = .ok (.iinc 1 1, 3) := by decide +kernel
theorem dX5_init_100 : decode cX5_init 100 = .ok (.goto (-77), 3) := by decide +kernel
theorem dX5_init_103 : decode cX5_init 103 = .ok (.return_, 1) := by decide +kernel
set_option maxRecDepth 20000 in
theorem ggX5_choose_X9_within : GoodIn wsX5_choose wsX9_within := goodIn_r _ [4] (by decide +kernel) (by decide +kernel)
set_option maxRecDepth 20000 in
theorem gX5_choose_X9_within_n18 : GoodIn wsX5_choose (wsX9_within) := ggX5_choose_X9_within
theorem dX5_choose_0 : decode cX5_choose 0 = .ok (.iload_n 1, 1) := by decide +kernel
theorem dX5_choose_1 : decode cX5_choose 1 = .ok (.iconst 0, 1) := by decide +kernel
theorem dX5_choose_2 : decode cX5_choose 2 = .ok (.bipush 50, 2) := by decide +kernel
theorem dX5_choose_4 : decode cX5_choose 4 = .ok (.invokestatic 18, 3) := by decide +kernel
theorem dX5_choose_7 : decode cX5_choose 7 = .ok (.ifCond .eq 29, 3) := by decide +kernel
theorem dX5_choose_10 : decode cX5_choose 10 = .ok (.iload_n 2, 1) := by decide +kernel
theorem dX5_choose_11 : decode cX5_choose 11 = .ok (.iconst 0, 1) := by decide +kernel
theorem dX5_choose_12 : decode cX5_choose 12 = .ok (.iload_n 1, 1) := by decide +kernel
theorem dX5_choose_13 : decode cX5_choose 13 = .ok (.invokestatic 18, 3) := by decide +kernel
theorem dX5_choose_16 : decode cX5_choose 16 = .ok (.ifCond .eq 20, 3) := by decide +kernel
theorem dX5_choose_19 : decode cX5_choose 19 = .ok (.aload_n 0, 1) := by decide +kernel
theorem dX5_choose_20 : decode cX5_choose 20 = .ok (.getfield 9, 3) := by decide +kernel
theorem dX5_choose_23 : decode cX5_choose 23 = .ok (.iload_n 1, 1) := by decide +kernel
theorem dX5_choose_24 : decode cX5_choose 24 = .ok (.iload_n 1, 1) := by decide +kernel
theorem dX5_choose_25 : decode cX5_choose 25 = .ok (.iconst 1, 1) := by decide +kernel
theorem dX5_choose_26 : decode cX5_choose 26 = .ok (.iadd, 1) := by decide +kernel
theorem dX5_choose_27 : decode cX5_choose 27 = .ok (.imul, 1) := by decide +kernel
theorem dX5_choose_28 : decode cX5_choose 28 = .ok (.iconst 2, 1) := by decide +kernel
theorem dX5_choose_29 : decode cX5_choose 29 = .ok (.idiv, 1) := by decide +kernel
theorem dX5_choose_30 : decode cX5_choose 30 = .ok (.iload_n 2, 1) := by decide +kernel
theorem dX5_choose_31 : decode cX5_choose 31 = .ok (.iadd, 1) := by decide +kernel
theorem dX5_choose_32 : decode cX5_choose 32 = .ok (.laload, 1) := by decide +kernel
theorem dX5_choose_33 : decode cX5_choose 33 = .ok (.goto 4, 3) := by decide +kernel
theorem dX5_choose_36 : decode cX5_choose 36 = .ok (.lconst 0, 1) := by decide +kernel
theorem dX5_choose_37 : decode cX5_choose 37 = .ok (.lreturn, 1) := by decide +kernel
set_option maxRecDepth 20000 in
theorem ggX5_just_X5_choose : GoodIn wsX5_just wsX5_choose := goodIn_r _ [5, 6, 7, 8, 9, 10, 11] (by decide +kernel) (by decide +kernel)
set_option maxRecDepth 20000 in
theorem gX5_just_X5_choose : GoodIn wsX5_just (wsV RX5 22 RX5 yX5_choose wsX5_choose) := goodIn_app (goodIn_of _ (by decide +kernel)) ggX5_just_X5_choose
theorem dX5_just_0 : decode cX5_just 0 = .ok (.aload_n 0, 1) := by decide +kernel
theorem dX5_just_1 : decode cX5_just 1 = .ok (.iload_n 2, 1) := by decide +kernel
theorem dX5_just_2 : decode cX5_just 2 = .ok (.iload 4, 2) := by decide +kernel
theorem dX5_just_4 : decode cX5_just 4 = .ok (.invokevirtual 22, 3) := by decide +kernel
theorem dX5_just_7 : decode cX5_just 7 = .ok (.aload_n 0, 1) := by decide +kernel
theorem dX5_just_8 : decode cX5_just 8 = .ok (.iload_n 1, 1) := by decide +kernel
theorem dX5_just_9 : decode cX5_just 9 = .ok (.iload_n 2, 1) := by decide +kernel
theorem dX5_just_10 : decode cX5_just 10 = .ok (.isub, 1) := by decide +kernel
theorem dX5_just_11 : decode cX5_just 11 = .ok (.iload_n 3, 1) := by decide +kernel
theorem dX5_just_12 : decode cX5_just 12 = .ok (.iload 4, 2) := by decide +kernel
theorem dX5_just_14 : decode cX5_just 14 = .ok (.isub, 1) := by decide +kernel
theorem dX5_just_15 : decode cX5_just 15 = .ok (.invokevirtual 22, 3) := by decide +kernel
theorem dX5_just_18 : decode cX5_just 18 = .ok (.lmul, 1) := by decide +kernel
theorem dX5_just_19 : decode cX5_just 19 = .ok (.lreturn, 1) := by decide +kernel
theorem dX5_distance_0 : decode cX5_distance 0 = .ok (.iload_n 0, 1) := by decide +kernel
theorem dX5_distance_1 : decode cX5_distance 1 = .ok (.iload_n 2, 1) := by decide +kernel
theorem dX5_distance_2 : decode cX5_distance 2 = .ok (.imul, 1) := by decide +kernel
theorem dX5_distance_3 : decode cX5_distance 3 = .ok (.istore 4, 2) := by decide +kernel
theorem dX5_distance_5 : decode cX5_distance 5 = .ok (.iload 4, 2) := by decide +kernel
theorem dX5_distance_7 : decode cX5_distance 7 = .ok (.iconst 1, 1) := by decide +kernel
theorem dX5_distance_8 : decode cX5_distance 8 = .ok (.if_icmp .ge 6, 3) := by decide +kernel
theorem dX5_distance_11 : decode cX5_distance 11 = .ok (.bipush 100, 2) := by decide +kernel
theorem dX5_distance_13 : decode cX5_distance 13 = .ok (.ireturn, 1) := by decide +kernel
theorem dX5_distance_14 : decode cX5_distance 14 = .ok (.bipush 100, 2) := by decide +kernel
theorem dX5_distance_16 : decode cX5_distance 16 = .ok (.iload_n 3, 1) := by decide +kernel
theorem dX5_distance_17 : decode cX5_distance 17 = .ok (.iload_n 0, 1) := by decide +kernel
theorem dX5_distance_18 : decode cX5_distance 18 = .ok (.imul, 1) := by decide +kernel
theorem dX5_distance_19 : decode cX5_distance 19 = .ok (.iload_n 1, 1) := by decide +kernel
theorem dX5_distance_20 : decode cX5_distance 20 = .ok (.iload_n 2, 1) := by decide +kernel
theorem dX5_distance_21 : decode cX5_distance 21 = .ok (.imul, 1) := by decide +kernel
theorem dX5_distance_22 : decode cX5_distance 22 = .ok (.isub, 1) := by decide +kernel
theorem dX5_distance_23 : decode cX5_distance 23 = .ok (.invokestatic 26, 3) := by decide +kernel
theorem dX5_distance_26 : decode cX5_distance 26 = .ok (.bipush 100, 2) := by decide +kernel
theorem dX5_distance_28 : decode cX5_distance 28 = .ok (.imul, 1) := by decide +kernel
theorem dX5_distance_29 : decode cX5_distance 29 = .ok (.iload 4, 2) := by decide +kernel
theorem dX5_distance_31 : decode cX5_distance 31 = .ok (.iadd, 1) := by decide +kernel
theorem dX5_distance_32 : decode cX5_distance 32 = .ok (.iconst 1, 1) := by decide +kernel
theorem dX5_distance_33 : decode cX5_distance 33 = .ok (.isub, 1) := by decide +kernel
theorem dX5_distance_34 : decode cX5_distance 34 = .ok (.iload 4, 2) := by decide +kernel
theorem dX5_distance_36 : decode cX5_distance 36 = .ok (.idiv, 1) := by decide +kernel
theorem dX5_distance_37 : decode cX5_distance 37 = .ok (.invokestatic 32, 3) := by decide +kernel
theorem dX5_distance_40 : decode cX5_distance 40 = .ok (.ireturn, 1) := by decide +kernel
set_option maxRecDepth 20000 in
theorem ggX5_near_X5_distance : GoodIn wsX5_near wsX5_distance := goodIn_r _ [4, 5, 6, 7, 8, 9, 10, 11] (by decide +kernel) (by decide +kernel)
set_option maxRecDepth 20000 in
theorem gX5_near_X5_distance : GoodIn wsX5_near (va_wsS RX5 36 yX5_distance wsX5_distance) := goodIn_app (goodIn_of _ (by decide +kernel)) ggX5_near_X5_distance
set_option maxRecDepth 20000 in
theorem ggX5_near_X5_just : GoodIn wsX5_near wsX5_just := goodIn_r _ [15, 16, 17, 18, 3, 19, 20, 21, 22, 23, 24, 25] (by decide +kernel) (by decide +kernel)
set_option maxRecDepth 20000 in
theorem gX5_near_X5_just : GoodIn wsX5_near (wsV RX5 40 RX5 yX5_just wsX5_just) := goodIn_app (goodIn_of _ (by decide +kernel)) ggX5_near_X5_just
theorem dX5_near_0 : decode cX5_near 0 = .ok (.lconst 0, 1) := by decide +kernel
theorem dX5_near_1 : decode cX5_near 1 = .ok (.lstore 5, 2) := by decide +kernel
theorem dX5_near_3 : decode cX5_near 3 = .ok (.iconst 0, 1) := by decide +kernel
theorem dX5_near_4 : decode cX5_near 4 = .ok (.istore 7, 2) := by decide +kernel
theorem dX5_near_6 : decode cX5_near 6 = .ok (.iload 7, 2) := by decide +kernel
theorem dX5_near_8 : decode cX5_near 8 = .ok (.iload_n 3, 1) := by decide +kernel
theorem dX5_near_9 : decode cX5_near 9 = .ok (.if_icmp .gt 36, 3) := by decide +kernel
theorem dX5_near_12 : decode cX5_near 12 = .ok (.iload_n 1, 1) := by decide +kernel
theorem dX5_near_13 : decode cX5_near 13 = .ok (.iload_n 2, 1) := by decide +kernel
theorem dX5_near_14 : decode cX5_near 14 = .ok (.iload_n 3, 1) := by decide +kernel
theorem dX5_near_15 : decode cX5_near 15 = .ok (.iload 7, 2) := by decide +kernel
theorem dX5_near_17 : decode cX5_near 17 = .ok (.invokestatic 36, 3) := by decide +kernel
theorem dX5_near_20 : decode cX5_near 20 = .ok (.iload 4, 2) := by decide +kernel
theorem dX5_near_22 : decode cX5_near 22 = .ok (.if_icmp .gt 17, 3) := by decide +kernel
theorem dX5_near_25 : decode cX5_near 25 = .ok (.lload 5, 2) := by decide +kernel
theorem dX5_near_27 : decode cX5_near 27 = .ok (.aload_n 0, 1) := by decide +kernel
theorem dX5_near_28 : decode cX5_near 28 = .ok (.iload_n 1, 1) := by decide +kernel
theorem dX5_near_29 : decode cX5_near 29 = .ok (.iload_n 2, 1) := by decide +kernel
theorem dX5_near_30 : decode cX5_near 30 = .ok (.iload_n 3, 1) := by decide +kernel
theorem dX5_near_31 : decode cX5_near 31 = .ok (.iload 7, 2) := by decide +kernel
theorem dX5_near_33 : decode cX5_near 33 = .ok (.invokevirtual 40, 3) := by decide +kernel
theorem dX5_near_36 : decode cX5_near 36 = .ok (.ladd, 1) := by decide +kernel
theorem dX5_near_37 : decode cX5_near 37 = .ok (.lstore 5, 2) := by decide +kernel
theorem dX5_near_39 : decode cX5_near 39 = .ok (.iinc 7 1, 3) := by decide +kernel
theorem dX5_near_42 : decode cX5_near 42 = .ok (.goto (-36), 3) := by decide +kernel
theorem dX5_near_45 : decode cX5_near 45 = .ok (.lload 5, 2) := by decide +kernel
theorem dX5_near_47 : decode cX5_near 47 = .ok (.lreturn, 1) := by decide +kernel
theorem dX5_isEnough_0 : decode cX5_isEnough 0 = .ok (.lload_n 0, 1) := by decide +kernel
theorem dX5_isEnough_1 : decode cX5_isEnough 1 = .ok (.ldc2_w 44, 3) := by decide +kernel
theorem dX5_isEnough_4 : decode cX5_isEnough 4 = .ok (.lmul, 1) := by decide +kernel
theorem dX5_isEnough_5 : decode cX5_isEnough 5 = .ok (.lload_n 2, 1) := by decide +kernel
theorem dX5_isEnough_6 : decode cX5_isEnough 6 = .ok (.iload 4, 2) := by decide +kernel
theorem dX5_isEnough_8 : decode cX5_isEnough 8 = .ok (.i2l, 1) := by decide +kernel
theorem dX5_isEnough_9 : decode cX5_isEnough 9 = .ok (.lmul, 1) := by decide +kernel
theorem dX5_isEnough_10 : decode cX5_isEnough 10 = .ok (.lcmp, 1) := by decide +kernel
theorem dX5_isEnough_11 : decode cX5_isEnough 11 = .ok (.ifCond .lt 7, 3) := by decide +kernel
theorem dX5_isEnough_14 : decode cX5_isEnough 14 = .ok (.iconst 1, 1) := by decide +kernel
theorem dX5_isEnough_15 : decode cX5_isEnough 15 = .ok (.goto 4, 3) := by decide +kernel
theorem dX5_isEnough_18 : decode cX5_isEnough 18 = .ok (.iconst 0, 1) := by decide +kernel
theorem dX5_isEnough_19 : decode cX5_isEnough 19 = .ok (.ireturn, 1) := by decide +kernel
set_option maxRecDepth 20000 in
theorem ggX5_fewest_X5_near : GoodIn wsX5_fewest wsX5_near := goodIn_r _ [5, 6, 7, 4, 8, 9, 10, 11, 12, 13, 14, 15, 16, 17, 18, 19, 20, 21, 22, 23, 24, 25, 26, 27, 32, 33] (by decide +kernel) (by decide +kernel)
set_option maxRecDepth 20000 in
theorem gX5_fewest_X5_near : GoodIn wsX5_fewest (wsV RX5 46 RX5 yX5_near wsX5_near) := goodIn_app (goodIn_of _ (by decide +kernel)) ggX5_fewest_X5_near
set_option maxRecDepth 20000 in
theorem ggX5_fewest_X5_choose : GoodIn wsX5_fewest wsX5_choose := goodIn_r _ [23, 24, 25, 26, 27, 32, 33] (by decide +kernel) (by decide +kernel)
set_option maxRecDepth 20000 in
theorem gX5_fewest_X5_choose : GoodIn wsX5_fewest (wsV RX5 22 RX5 yX5_choose wsX5_choose) := goodIn_app (goodIn_of _ (by decide +kernel)) ggX5_fewest_X5_choose
set_option maxRecDepth 20000 in
theorem ggX5_fewest_X5_isEnough : GoodIn wsX5_fewest wsX5_isEnough := goodIn_r _ [30, 31] (by decide +kernel) (by decide +kernel)
set_option maxRecDepth 20000 in
theorem gX5_fewest_X5_isEnough : GoodIn wsX5_fewest (va_wsS RX5 49 yX5_isEnough wsX5_isEnough) := goodIn_app (goodIn_of _ (by decide +kernel)) ggX5_fewest_X5_isEnough
theorem dX5_fewest_0 : decode cX5_fewest 0 = .ok (.iconst 1, 1) := by decide +kernel
theorem dX5_fewest_1 : decode cX5_fewest 1 = .ok (.istore 5, 2) := by decide +kernel
theorem dX5_fewest_3 : decode cX5_fewest 3 = .ok (.iload 5, 2) := by decide +kernel
theorem dX5_fewest_5 : decode cX5_fewest 5 = .ok (.iload_n 1, 1) := by decide +kernel
theorem dX5_fewest_6 : decode cX5_fewest 6 = .ok (.if_icmp .ge 36, 3) := by decide +kernel
theorem dX5_fewest_9 : decode cX5_fewest 9 = .ok (.aload_n 0, 1) := by decide +kernel
theorem dX5_fewest_10 : decode cX5_fewest 10 = .ok (.iload_n 1, 1) := by decide +kernel
theorem dX5_fewest_11 : decode cX5_fewest 11 = .ok (.iload_n 2, 1) := by decide +kernel
theorem dX5_fewest_12 : decode cX5_fewest 12 = .ok (.iload 5, 2) := by decide +kernel
theorem dX5_fewest_14 : decode cX5_fewest 14 = .ok (.iload_n 3, 1) := by decide +kernel
theorem dX5_fewest_15 : decode cX5_fewest 15 = .ok (.invokevirtual 46, 3) := by decide +kernel
theorem dX5_fewest_18 : decode cX5_fewest 18 = .ok (.aload_n 0, 1) := by decide +kernel
theorem dX5_fewest_19 : decode cX5_fewest 19 = .ok (.iload_n 1, 1) := by decide +kernel
theorem dX5_fewest_20 : decode cX5_fewest 20 = .ok (.iload 5, 2) := by decide +kernel
theorem dX5_fewest_22 : decode cX5_fewest 22 = .ok (.invokevirtual 22, 3) := by decide +kernel
theorem dX5_fewest_25 : decode cX5_fewest 25 = .ok (.iload 4, 2) := by decide +kernel
theorem dX5_fewest_27 : decode cX5_fewest 27 = .ok (.invokestatic 49, 3) := by decide +kernel
theorem dX5_fewest_30 : decode cX5_fewest 30 = .ok (.ifCond .eq 6, 3) := by decide +kernel
theorem dX5_fewest_33 : decode cX5_fewest 33 = .ok (.iload 5, 2) := by decide +kernel
theorem dX5_fewest_35 : decode cX5_fewest 35 = .ok (.ireturn, 1) := by decide +kernel
theorem dX5_fewest_36 : decode cX5_fewest 36 = .ok (.iinc 5 1, 3) := by decide +kernel
theorem dX5_fewest_39 : decode cX5_fewest 39 = .ok (.goto (-36), 3) := by decide +kernel
theorem dX5_fewest_42 : decode cX5_fewest 42 = .ok (.iload_n 1, 1) := by decide +kernel
theorem dX5_fewest_43 : decode cX5_fewest 43 = .ok (.ireturn, 1) := by decide +kernel
set_option maxRecDepth 20000 in
theorem ggX5_leastDistance_J7_fill_d0a16 : GoodIn wsX5_leastDistance wsJ7_fill_d0a16 := goodIn_r _ [5] (by decide +kernel) (by decide +kernel)
set_option maxRecDepth 20000 in
theorem gX5_leastDistance_J7_fill_d0a16 : GoodIn wsX5_leastDistance (va_wsS RX5 53 yJ7_fill_d0a16 wsJ7_fill_d0a16) := goodIn_app (goodIn_of _ (by decide +kernel)) ggX5_leastDistance_J7_fill_d0a16
set_option maxRecDepth 20000 in
theorem ggX5_leastDistance_X5_distance : GoodIn wsX5_leastDistance wsX5_distance := goodIn_r _ [9, 10, 11, 12, 13, 14, 15, 16] (by decide +kernel) (by decide +kernel)
set_option maxRecDepth 20000 in
theorem gX5_leastDistance_X5_distance : GoodIn wsX5_leastDistance (va_wsS RX5 36 yX5_distance wsX5_distance) := goodIn_app (goodIn_of _ (by decide +kernel)) ggX5_leastDistance_X5_distance
set_option maxRecDepth 20000 in
theorem ggX5_leastDistance_X5_just : GoodIn wsX5_leastDistance wsX5_just := goodIn_r _ [20, 21, 22, 23, 8, 24, 25, 26, 27, 28, 33, 34] (by decide +kernel) (by decide +kernel)
set_option maxRecDepth 20000 in
theorem gX5_leastDistance_X5_just : GoodIn wsX5_leastDistance (wsV RX5 40 RX5 yX5_just wsX5_just) := goodIn_app (goodIn_of _ (by decide +kernel)) ggX5_leastDistance_X5_just
set_option maxRecDepth 20000 in
theorem ggX5_leastDistance_X5_choose : GoodIn wsX5_leastDistance wsX5_choose := goodIn_r _ [24, 25, 26, 27, 28, 33, 34] (by decide +kernel) (by decide +kernel)
set_option maxRecDepth 20000 in
theorem gX5_leastDistance_X5_choose : GoodIn wsX5_leastDistance (wsV RX5 22 RX5 yX5_choose wsX5_choose) := goodIn_app (goodIn_of _ (by decide +kernel)) ggX5_leastDistance_X5_choose
set_option maxRecDepth 20000 in
theorem ggX5_leastDistance_X5_isEnough : GoodIn wsX5_leastDistance wsX5_isEnough := goodIn_r _ [31, 32] (by decide +kernel) (by decide +kernel)
set_option maxRecDepth 20000 in
theorem gX5_leastDistance_X5_isEnough : GoodIn wsX5_leastDistance (va_wsS RX5 49 yX5_isEnough wsX5_isEnough) := goodIn_app (goodIn_of _ (by decide +kernel)) ggX5_leastDistance_X5_isEnough
theorem dX5_leastDistance_0 : decode cX5_leastDistance 0 = .ok (.aload_n 0, 1) := by decide +kernel
theorem dX5_leastDistance_1 : decode cX5_leastDistance 1 = .ok (.getfield 15, 3) := by decide +kernel
theorem dX5_leastDistance_4 : decode cX5_leastDistance 4 = .ok (.lconst 0, 1) := by decide +kernel
theorem dX5_leastDistance_5 : decode cX5_leastDistance 5 = .ok (.invokestatic 53, 3) := by decide +kernel
theorem dX5_leastDistance_8 : decode cX5_leastDistance 8 = .ok (.iconst 0, 1) := by decide +kernel
theorem dX5_leastDistance_9 : decode cX5_leastDistance 9 = .ok (.istore 5, 2) := by decide +kernel
theorem dX5_leastDistance_11 : decode cX5_leastDistance 11 = .ok (.iload 5, 2) := by decide +kernel
theorem dX5_leastDistance_13 : decode cX5_leastDistance 13 = .ok (.iload_n 3, 1) := by decide +kernel
theorem dX5_leastDistance_14 : decode cX5_leastDistance 14 = .ok (.if_icmp .gt 34, 3) := by decide +kernel
theorem dX5_leastDistance_17 : decode cX5_leastDistance 17 = .ok (.aload_n 0, 1) := by decide +kernel
theorem dX5_leastDistance_18 : decode cX5_leastDistance 18 = .ok (.getfield 15, 3) := by decide +kernel
theorem dX5_leastDistance_21 : decode cX5_leastDistance 21 = .ok (.iload_n 1, 1) := by decide +kernel
theorem dX5_leastDistance_22 : decode cX5_leastDistance 22 = .ok (.iload_n 2, 1) := by decide +kernel
theorem dX5_leastDistance_23 : decode cX5_leastDistance 23 = .ok (.iload_n 3, 1) := by decide +kernel
theorem dX5_leastDistance_24 : decode cX5_leastDistance 24 = .ok (.iload 5, 2) := by decide +kernel
theorem dX5_leastDistance_26 : decode cX5_leastDistance 26 = .ok (.invokestatic 36, 3) := by decide +kernel
theorem dX5_leastDistance_29 : decode cX5_leastDistance 29 = .ok (.dup2, 1) := by decide +kernel
theorem dX5_leastDistance_30 : decode cX5_leastDistance 30 = .ok (.laload, 1) := by decide +kernel
theorem dX5_leastDistance_31 : decode cX5_leastDistance 31 = .ok (.aload_n 0, 1) := by decide +kernel
theorem dX5_leastDistance_32 : decode cX5_leastDistance 32 = .ok (.iload_n 1, 1) := by decide +kernel
theorem dX5_leastDistance_33 : decode cX5_leastDistance 33 = .ok (.iload_n 2, 1) := by decide +kernel
theorem dX5_leastDistance_34 : decode cX5_leastDistance 34 = .ok (.iload_n 3, 1) := by decide +kernel
theorem dX5_leastDistance_35 : decode cX5_leastDistance 35 = .ok (.iload 5, 2) := by decide +kernel
theorem dX5_leastDistance_37 : decode cX5_leastDistance 37 = .ok (.invokevirtual 40, 3) := by decide +kernel
theorem dX5_leastDistance_40 : decode cX5_leastDistance 40 = .ok (.ladd, 1) := by decide +kernel
theorem dX5_leastDistance_41 : decode cX5_leastDistance 41 = .ok (.lastore, 1) := by decide +kernel
theorem dX5_leastDistance_42 : decode cX5_leastDistance 42 = .ok (.iinc 5 1, 3) := by decide +kernel
theorem dX5_leastDistance_45 : decode cX5_leastDistance 45 = .ok (.goto (-34), 3) := by decide +kernel
theorem dX5_leastDistance_48 : decode cX5_leastDistance 48 = .ok (.aload_n 0, 1) := by decide +kernel
theorem dX5_leastDistance_49 : decode cX5_leastDistance 49 = .ok (.iload_n 1, 1) := by decide +kernel
theorem dX5_leastDistance_50 : decode cX5_leastDistance 50 = .ok (.iload_n 3, 1) := by decide +kernel
theorem dX5_leastDistance_51 : decode cX5_leastDistance 51 = .ok (.invokevirtual 22, 3) := by decide +kernel
theorem dX5_leastDistance_54 : decode cX5_leastDistance 54 = .ok (.lstore 5, 2) := by decide +kernel
theorem dX5_leastDistance_56 : decode cX5_leastDistance 56 = .ok (.lconst 0, 1) := by decide +kernel
theorem dX5_leastDistance_57 : decode cX5_leastDistance 57 = .ok (.lstore 7, 2) := by decide +kernel
theorem dX5_leastDistance_59 : decode cX5_leastDistance 59 = .ok (.iconst 0, 1) := by decide +kernel
theorem dX5_leastDistance_60 : decode cX5_leastDistance 60 = .ok (.istore 9, 2) := by decide +kernel
theorem dX5_leastDistance_62 : decode cX5_leastDistance 62 = .ok (.iload 9, 2) := by decide +kernel
theorem dX5_leastDistance_64 : decode cX5_leastDistance 64 = .ok (.bipush 100, 2) := by decide +kernel
theorem dX5_leastDistance_66 : decode cX5_leastDistance 66 = .ok (.if_icmp .ge 36, 3) := by decide +kernel
theorem dX5_leastDistance_69 : decode cX5_leastDistance 69 = .ok (.lload 7, 2) := by decide +kernel
theorem dX5_leastDistance_71 : decode cX5_leastDistance 71 = .ok (.aload_n 0, 1) := by decide +kernel
theorem dX5_leastDistance_72 : decode cX5_leastDistance 72 = .ok (.getfield 15, 3) := by decide +kernel
theorem dX5_leastDistance_75 : decode cX5_leastDistance 75 = .ok (.iload 9, 2) := by decide +kernel
theorem dX5_leastDistance_77 : decode cX5_leastDistance 77 = .ok (.laload, 1) := by decide +kernel
theorem dX5_leastDistance_78 : decode cX5_leastDistance 78 = .ok (.ladd, 1) := by decide +kernel
theorem dX5_leastDistance_79 : decode cX5_leastDistance 79 = .ok (.lstore 7, 2) := by decide +kernel
theorem dX5_leastDistance_81 : decode cX5_leastDistance 81 = .ok (.lload 7, 2) := by decide +kernel
theorem dX5_leastDistance_83 : decode cX5_leastDistance 83 = .ok (.lload 5, 2) := by decide +kernel
theorem dX5_leastDistance_85 : decode cX5_leastDistance 85 = .ok (.iload 4, 2) := by decide +kernel
theorem dX5_leastDistance_87 : decode cX5_leastDistance 87 = .ok (.invokestatic 49, 3) := by decide +kernel
theorem dX5_leastDistance_90 : decode cX5_leastDistance 90 = .ok (.ifCond .eq 6, 3) := by decide +kernel
theorem dX5_leastDistance_93 : decode cX5_leastDistance 93 = .ok (.iload 9, 2) := by decide +kernel
theorem dX5_leastDistance_95 : decode cX5_leastDistance 95 = .ok (.ireturn, 1) := by decide +kernel
theorem dX5_leastDistance_96 : decode cX5_leastDistance 96 = .ok (.iinc 9 1, 3) := by decide +kernel
theorem dX5_leastDistance_99 : decode cX5_leastDistance 99 = .ok (.goto (-37), 3) := by decide +kernel
theorem dX5_leastDistance_102 : decode cX5_leastDistance 102 = .ok (.bipush 100, 2) := by decide +kernel
theorem dX5_leastDistance_104 : decode cX5_leastDistance 104 = .ok (.ireturn, 1) := by decide +kernel
set_option maxRecDepth 20000 in
theorem ggX5_likeliest_X5_just : GoodIn wsX5_likeliest wsX5_just := goodIn_r _ [5, 6, 7, 8, 4, 9, 10, 11, 12, 13, 14, 15] (by decide +kernel) (by decide +kernel)
set_option maxRecDepth 20000 in
theorem gX5_likeliest_X5_just : GoodIn wsX5_likeliest (wsV RX5 40 RX5 yX5_just wsX5_just) := goodIn_app (goodIn_of _ (by decide +kernel)) ggX5_likeliest_X5_just
theorem dX5_likeliest_0 : decode cX5_likeliest 0 = .ok (.iconst 0, 1) := by decide +kernel
theorem dX5_likeliest_1 : decode cX5_likeliest 1 = .ok (.istore 4, 2) := by decide +kernel
theorem dX5_likeliest_3 : decode cX5_likeliest 3 = .ok (.iconst 1, 1) := by decide +kernel
theorem dX5_likeliest_4 : decode cX5_likeliest 4 = .ok (.istore 5, 2) := by decide +kernel
theorem dX5_likeliest_6 : decode cX5_likeliest 6 = .ok (.iload 5, 2) := by decide +kernel
theorem dX5_likeliest_8 : decode cX5_likeliest 8 = .ok (.iload_n 1, 1) := by decide +kernel
theorem dX5_likeliest_9 : decode cX5_likeliest 9 = .ok (.if_icmp .gt 35, 3) := by decide +kernel
theorem dX5_likeliest_12 : decode cX5_likeliest 12 = .ok (.aload_n 0, 1) := by decide +kernel
theorem dX5_likeliest_13 : decode cX5_likeliest 13 = .ok (.iload_n 1, 1) := by decide +kernel
theorem dX5_likeliest_14 : decode cX5_likeliest 14 = .ok (.iload 5, 2) := by decide +kernel
theorem dX5_likeliest_16 : decode cX5_likeliest 16 = .ok (.iload_n 2, 1) := by decide +kernel
theorem dX5_likeliest_17 : decode cX5_likeliest 17 = .ok (.iload_n 3, 1) := by decide +kernel
theorem dX5_likeliest_18 : decode cX5_likeliest 18 = .ok (.invokevirtual 40, 3) := by decide +kernel
theorem dX5_likeliest_21 : decode cX5_likeliest 21 = .ok (.aload_n 0, 1) := by decide +kernel
theorem dX5_likeliest_22 : decode cX5_likeliest 22 = .ok (.iload_n 1, 1) := by decide +kernel
theorem dX5_likeliest_23 : decode cX5_likeliest 23 = .ok (.iload 4, 2) := by decide +kernel
theorem dX5_likeliest_25 : decode cX5_likeliest 25 = .ok (.iload_n 2, 1) := by decide +kernel
theorem dX5_likeliest_26 : decode cX5_likeliest 26 = .ok (.iload_n 3, 1) := by decide +kernel
theorem dX5_likeliest_27 : decode cX5_likeliest 27 = .ok (.invokevirtual 40, 3) := by decide +kernel
theorem dX5_likeliest_30 : decode cX5_likeliest 30 = .ok (.lcmp, 1) := by decide +kernel
theorem dX5_likeliest_31 : decode cX5_likeliest 31 = .ok (.ifCond .le 7, 3) := by decide +kernel
theorem dX5_likeliest_34 : decode cX5_likeliest 34 = .ok (.iload 5, 2) := by decide +kernel
theorem dX5_likeliest_36 : decode cX5_likeliest 36 = .ok (.istore 4, 2) := by decide +kernel
theorem dX5_likeliest_38 : decode cX5_likeliest 38 = .ok (.iinc 5 1, 3) := by decide +kernel
theorem dX5_likeliest_41 : decode cX5_likeliest 41 = .ok (.goto (-35), 3) := by decide +kernel
theorem dX5_likeliest_44 : decode cX5_likeliest 44 = .ok (.iload 4, 2) := by decide +kernel
theorem dX5_likeliest_46 : decode cX5_likeliest 46 = .ok (.ireturn, 1) := by decide +kernel
set_option maxRecDepth 20000 in
theorem ggX5_isLikely_X5_just : GoodIn wsX5_isLikely wsX5_just := goodIn_r _ [6, 7, 8, 9, 5, 10, 11, 12, 13, 14, 15, 16] (by decide +kernel) (by decide +kernel)
set_option maxRecDepth 20000 in
theorem gX5_isLikely_X5_just : GoodIn wsX5_isLikely (wsV RX5 40 RX5 yX5_just wsX5_just) := goodIn_app (goodIn_of _ (by decide +kernel)) ggX5_isLikely_X5_just
theorem dX5_isLikely_0 : decode cX5_isLikely 0 = .ok (.aload_n 0, 1) := by decide +kernel
theorem dX5_isLikely_1 : decode cX5_isLikely 1 = .ok (.iload_n 1, 1) := by decide +kernel
theorem dX5_isLikely_2 : decode cX5_isLikely 2 = .ok (.iload_n 2, 1) := by decide +kernel
theorem dX5_isLikely_3 : decode cX5_isLikely 3 = .ok (.iload_n 3, 1) := by decide +kernel
theorem dX5_isLikely_4 : decode cX5_isLikely 4 = .ok (.iload 4, 2) := by decide +kernel
theorem dX5_isLikely_6 : decode cX5_isLikely 6 = .ok (.invokevirtual 40, 3) := by decide +kernel
theorem dX5_isLikely_9 : decode cX5_isLikely 9 = .ok (.ldc2_w 59, 3) := by decide +kernel
theorem dX5_isLikely_12 : decode cX5_isLikely 12 = .ok (.lmul, 1) := by decide +kernel
theorem dX5_isLikely_13 : decode cX5_isLikely 13 = .ok (.lload 5, 2) := by decide +kernel
theorem dX5_isLikely_15 : decode cX5_isLikely 15 = .ok (.lcmp, 1) := by decide +kernel
theorem dX5_isLikely_16 : decode cX5_isLikely 16 = .ok (.ifCond .lt 7, 3) := by decide +kernel
theorem dX5_isLikely_19 : decode cX5_isLikely 19 = .ok (.iconst 1, 1) := by decide +kernel
theorem dX5_isLikely_20 : decode cX5_isLikely 20 = .ok (.goto 4, 3) := by decide +kernel
theorem dX5_isLikely_23 : decode cX5_isLikely 23 = .ok (.iconst 0, 1) := by decide +kernel
theorem dX5_isLikely_24 : decode cX5_isLikely 24 = .ok (.ireturn, 1) := by decide +kernel
set_option maxRecDepth 20000 in
theorem ggX5_leastTruth_X5_isLikely : GoodIn wsX5_leastTruth wsX5_isLikely := goodIn_r _ [5, 6, 7, 8, 9, 4, 10, 11, 12, 13, 14, 15, 16, 17, 18, 19, 20] (by decide +kernel) (by decide +kernel)
set_option maxRecDepth 20000 in
theorem gX5_leastTruth_X5_isLikely : GoodIn wsX5_leastTruth (wsV RX5 61 RX5 yX5_isLikely wsX5_isLikely) := goodIn_app (goodIn_of _ (by decide +kernel)) ggX5_leastTruth_X5_isLikely
theorem dX5_leastTruth_0 : decode cX5_leastTruth 0 = .ok (.iconst 0, 1) := by decide +kernel
theorem dX5_leastTruth_1 : decode cX5_leastTruth 1 = .ok (.istore 6, 2) := by decide +kernel
theorem dX5_leastTruth_3 : decode cX5_leastTruth 3 = .ok (.iload 6, 2) := by decide +kernel
theorem dX5_leastTruth_5 : decode cX5_leastTruth 5 = .ok (.iload_n 1, 1) := by decide +kernel
theorem dX5_leastTruth_6 : decode cX5_leastTruth 6 = .ok (.if_icmp .ge 26, 3) := by decide +kernel
theorem dX5_leastTruth_9 : decode cX5_leastTruth 9 = .ok (.aload_n 0, 1) := by decide +kernel
theorem dX5_leastTruth_10 : decode cX5_leastTruth 10 = .ok (.iload_n 1, 1) := by decide +kernel
theorem dX5_leastTruth_11 : decode cX5_leastTruth 11 = .ok (.iload 6, 2) := by decide +kernel
theorem dX5_leastTruth_13 : decode cX5_leastTruth 13 = .ok (.iload_n 2, 1) := by decide +kernel
theorem dX5_leastTruth_14 : decode cX5_leastTruth 14 = .ok (.iload_n 3, 1) := by decide +kernel
theorem dX5_leastTruth_15 : decode cX5_leastTruth 15 = .ok (.lload 4, 2) := by decide +kernel
theorem dX5_leastTruth_17 : decode cX5_leastTruth 17 = .ok (.invokevirtual 61, 3) := by decide +kernel
theorem dX5_leastTruth_20 : decode cX5_leastTruth 20 = .ok (.ifCond .eq 6, 3) := by decide +kernel
theorem dX5_leastTruth_23 : decode cX5_leastTruth 23 = .ok (.iload 6, 2) := by decide +kernel
theorem dX5_leastTruth_25 : decode cX5_leastTruth 25 = .ok (.ireturn, 1) := by decide +kernel
theorem dX5_leastTruth_26 : decode cX5_leastTruth 26 = .ok (.iinc 6 1, 3) := by decide +kernel
theorem dX5_leastTruth_29 : decode cX5_leastTruth 29 = .ok (.goto (-26), 3) := by decide +kernel
theorem dX5_leastTruth_32 : decode cX5_leastTruth 32 = .ok (.iload_n 1, 1) := by decide +kernel
theorem dX5_leastTruth_33 : decode cX5_leastTruth 33 = .ok (.ireturn, 1) := by decide +kernel
set_option maxRecDepth 20000 in
theorem ggX5_mostTruth_X5_isLikely : GoodIn wsX5_mostTruth wsX5_isLikely := goodIn_r _ [5, 6, 7, 8, 9, 4, 10, 11, 12, 13, 14, 15, 16, 17, 18, 19, 20] (by decide +kernel) (by decide +kernel)
set_option maxRecDepth 20000 in
theorem gX5_mostTruth_X5_isLikely : GoodIn wsX5_mostTruth (wsV RX5 61 RX5 yX5_isLikely wsX5_isLikely) := goodIn_app (goodIn_of _ (by decide +kernel)) ggX5_mostTruth_X5_isLikely
theorem dX5_mostTruth_0 : decode cX5_mostTruth 0 = .ok (.iload_n 1, 1) := by decide +kernel
theorem dX5_mostTruth_1 : decode cX5_mostTruth 1 = .ok (.istore 6, 2) := by decide +kernel
theorem dX5_mostTruth_3 : decode cX5_mostTruth 3 = .ok (.iload 6, 2) := by decide +kernel
theorem dX5_mostTruth_5 : decode cX5_mostTruth 5 = .ok (.ifCond .le 26, 3) := by decide +kernel
theorem dX5_mostTruth_8 : decode cX5_mostTruth 8 = .ok (.aload_n 0, 1) := by decide +kernel
theorem dX5_mostTruth_9 : decode cX5_mostTruth 9 = .ok (.iload_n 1, 1) := by decide +kernel
theorem dX5_mostTruth_10 : decode cX5_mostTruth 10 = .ok (.iload 6, 2) := by decide +kernel
theorem dX5_mostTruth_12 : decode cX5_mostTruth 12 = .ok (.iload_n 2, 1) := by decide +kernel
theorem dX5_mostTruth_13 : decode cX5_mostTruth 13 = .ok (.iload_n 3, 1) := by decide +kernel
theorem dX5_mostTruth_14 : decode cX5_mostTruth 14 = .ok (.lload 4, 2) := by decide +kernel
theorem dX5_mostTruth_16 : decode cX5_mostTruth 16 = .ok (.invokevirtual 61, 3) := by decide +kernel
theorem dX5_mostTruth_19 : decode cX5_mostTruth 19 = .ok (.ifCond .eq 6, 3) := by decide +kernel
theorem dX5_mostTruth_22 : decode cX5_mostTruth 22 = .ok (.iload 6, 2) := by decide +kernel
theorem dX5_mostTruth_24 : decode cX5_mostTruth 24 = .ok (.ireturn, 1) := by decide +kernel
theorem dX5_mostTruth_25 : decode cX5_mostTruth 25 = .ok (.iinc 6 (-1), 3) := by decide +kernel
theorem dX5_mostTruth_28 : decode cX5_mostTruth 28 = .ok (.goto (-25), 3) := by decide +kernel
theorem dX5_mostTruth_31 : decode cX5_mostTruth 31 = .ok (.iconst 0, 1) := by decide +kernel
theorem dX5_mostTruth_32 : decode cX5_mostTruth 32 = .ok (.ireturn, 1) := by decide +kernel
theorem dX6_init_0 : decode cX6_init 0 = .ok (.aload_n 0, 1) := by decide +kernel
theorem dX6_init_1 : decode cX6_init 1 = .ok (.invokespecial 3, 3) := by decide +kernel
theorem dX6_init_4 : decode cX6_init 4 = .ok (.aload_n 0, 1) := by decide +kernel
theorem dX6_init_5 : decode cX6_init 5 = .ok (.sipush 300, 3) := by decide +kernel
theorem dX6_init_8 : decode cX6_init 8 = .ok (.newarray .int, 2) := by decide +kernel
theorem dX6_init_10 : decode cX6_init 10 = .ok (.putfield 9, 3) := by decide +kernel
theorem dX6_init_13 : decode cX6_init 13 = .ok (.aload_n 0, 1) := by decide +kernel
theorem dX6_init_14 : decode cX6_init 14 = .ok (.iconst 0, 1) := by decide +kernel
theorem dX6_init_15 : decode cX6_init 15 = .ok (.putfield 15, 3) := by decide +kernel
theorem dX6_init_18 : decode cX6_init 18 = .ok (.aload_n 0, 1) := by decide +kernel
theorem dX6_init_19 : decode cX6_init 19 = .ok (.getstatic 19, 3) := by decide +kernel
theorem dX6_init_22 : decode cX6_init 22 = .ok (.putfield 25, 3) := by decide +kernel
theorem dX6_init_25 : decode cX6_init 25 = .ok (.aload_n 0, 1) := by decide +kernel
theorem dX6_init_26 : decode cX6_init 26 = .ok (.iconst 0, 1) := by decide +kernel
theorem dX6_init_27 : decode cX6_init 27 = .ok (.putfield 28, 3) := by decide +kernel
theorem dX6_init_30 : decode cX6_init 30 = .ok (.aload_n 0, 1) := by decide +kernel
theorem dX6_init_31 : decode cX6_init 31 = .ok (.iconst 0, 1) := by decide +kernel
theorem dX6_init_32 : decode cX6_init 32 = .ok (.putfield 31, 3) := by decide +kernel
theorem dX6_init_35 : decode cX6_init 35 = .ok (.aload_n 0, 1) := by decide +kernel
theorem dX6_init_36 : decode cX6_init 36 = .ok (.iconst 0, 1) := by decide +kernel
theorem dX6_init_37 : decode cX6_init 37 = .ok (.putfield 34, 3) := by decide +kernel
theorem dX6_init_40 : decode cX6_init 40 = .ok (.return_, 1) := by decide +kernel
theorem dX6_append_0 : decode cX6_append 0 = .ok (.aload_n 0, 1) := by decide +kernel
theorem dX6_append_1 : decode cX6_append 1 = .ok (.getfield 15, 3) := by decide +kernel
theorem dX6_append_4 : decode cX6_append 4 = .ok (.iload_n 3, 1) := by decide +kernel
theorem dX6_append_5 : decode cX6_append 5 = .ok (.iadd, 1) := by decide +kernel
theorem dX6_append_6 : decode cX6_append 6 = .ok (.sipush 300, 3) := by decide +kernel
theorem dX6_append_9 : decode cX6_append 9 = .ok (.if_icmp .le 6, 3) := by decide +kernel
theorem dX6_append_12 : decode cX6_append 12 = .ok (.bipush (-3), 2) := by decide +kernel
theorem dX6_append_14 : decode cX6_append 14 = .ok (.ireturn, 1) := by decide +kernel
theorem dX6_append_15 : decode cX6_append 15 = .ok (.iload_n 3, 1) := by decide +kernel
theorem dX6_append_16 : decode cX6_append 16 = .ok (.iconst 1, 1) := by decide +kernel
theorem dX6_append_17 : decode cX6_append 17 = .ok (.isub, 1) := by decide +kernel
theorem dX6_append_18 : decode cX6_append 18 = .ok (.istore 4, 2) := by decide +kernel
theorem dX6_append_20 : decode cX6_append 20 = .ok (.iload 4, 2) := by decide +kernel
theorem dX6_append_22 : decode cX6_append 22 = .ok (.ifCond .lt 40, 3) := by decide +kernel
theorem dX6_append_25 : decode cX6_append 25 = .ok (.aload_n 0, 1) := by decide +kernel
theorem dX6_append_26 : decode cX6_append 26 = .ok (.getfield 9, 3) := by decide +kernel
theorem dX6_append_29 : decode cX6_append 29 = .ok (.aload_n 0, 1) := by decide +kernel
theorem dX6_append_30 : decode cX6_append 30 = .ok (.getfield 15, 3) := by decide +kernel
theorem dX6_append_33 : decode cX6_append 33 = .ok (.lload_n 1, 1) := by decide +kernel
theorem dX6_append_34 : decode cX6_append 34 = .ok (.bipush 8, 2) := by decide +kernel
theorem dX6_append_36 : decode cX6_append 36 = .ok (.iload 4, 2) := by decide +kernel
theorem dX6_append_38 : decode cX6_append 38 = .ok (.imul, 1) := by decide +kernel
theorem dX6_append_39 : decode cX6_append 39 = .ok (.lushr, 1) := by decide +kernel
theorem dX6_append_40 : decode cX6_append 40 = .ok (.l2i, 1) := by decide +kernel
theorem dX6_append_41 : decode cX6_append 41 = .ok (.sipush 255, 3) := by decide +kernel
theorem dX6_append_44 : decode cX6_append 44 = .ok (.iand, 1) := by decide +kernel
theorem dX6_append_45 : decode cX6_append 45 = .ok (.iastore, 1) := by decide +kernel
theorem dX6_append_46 : decode cX6_append 46 = .ok (.aload_n 0, 1) := by decide +kernel
theorem dX6_append_47 : decode cX6_append 47 = .ok (.dup, 1) := by decide +kernel
theorem dX6_append_48 : decode cX6_append 48 = .ok (.getfield 15, 3) := by decide +kernel
theorem dX6_append_51 : decode cX6_append 51 = .ok (.iconst 1, 1) := by decide +kernel
theorem dX6_append_52 : decode cX6_append 52 = .ok (.iadd, 1) := by decide +kernel
theorem dX6_append_53 : decode cX6_append 53 = .ok (.putfield 15, 3) := by decide +kernel
theorem dX6_append_56 : decode cX6_append 56 = .ok (.iinc 4 (-1), 3) := by decide +kernel
theorem dX6_append_59 : decode cX6_append 59 = .ok (.goto (-39), 3) := by decide +kernel
theorem dX6_append_62 : decode cX6_append 62 = .ok (.aload_n 0, 1) := by decide +kernel
theorem dX6_append_63 : decode cX6_append 63 = .ok (.getfield 15, 3) := by decide +kernel
theorem dX6_append_66 : decode cX6_append 66 = .ok (.ireturn, 1) := by decide +kernel
theorem dX6_empty_0 : decode cX6_empty 0 = .ok (.aload_n 0, 1) := by decide +kernel
theorem dX6_empty_1 : decode cX6_empty 1 = .ok (.getfield 15, 3) := by decide +kernel
theorem dX6_empty_4 : decode cX6_empty 4 = .ok (.istore_n 1, 1) := by decide +kernel
theorem dX6_empty_5 : decode cX6_empty 5 = .ok (.aload_n 0, 1) := by decide +kernel
theorem dX6_empty_6 : decode cX6_empty 6 = .ok (.iconst 0, 1) := by decide +kernel
theorem dX6_empty_7 : decode cX6_empty 7 = .ok (.putfield 15, 3) := by decide +kernel
theorem dX6_empty_10 : decode cX6_empty 10 = .ok (.iload_n 1, 1) := by decide +kernel
theorem dX6_empty_11 : decode cX6_empty 11 = .ok (.ireturn, 1) := by decide +kernel
theorem dX6_rewind_0 : decode cX6_rewind 0 = .ok (.aload_n 0, 1) := by decide +kernel
theorem dX6_rewind_1 : decode cX6_rewind 1 = .ok (.iconst 0, 1) := by decide +kernel
theorem dX6_rewind_2 : decode cX6_rewind 2 = .ok (.putfield 31, 3) := by decide +kernel
theorem dX6_rewind_5 : decode cX6_rewind 5 = .ok (.return_, 1) := by decide +kernel
set_option maxRecDepth 20000 in
theorem ggX6_advance_X6_isLetter : GoodIn wsX6_advance wsX6_isLetter := goodIn_r _ [13] (by decide +kernel) (by decide +kernel)
set_option maxRecDepth 20000 in
theorem gX6_advance_X6_isLetter : GoodIn wsX6_advance (va_wsS RX6 37 yX6_isLetter wsX6_isLetter) := goodIn_app (goodIn_of _ (by decide +kernel)) ggX6_advance_X6_isLetter
set_option maxRecDepth 20000 in
theorem ggX6_advance_X6_readWord : GoodIn wsX6_advance wsX6_readWord := goodIn_r _ [17, 1, 3, 4, 18, 7, 19, 5, 9, 20, 10, 11, 12, 13, 21, 22, 23, 24, 2, 25, 26, 27, 28, 29, 30, 31, 32, 33, 34, 35, 36, 37, 38, 39, 40, 41, 42, 43, 44, 45, 46, 47, 48, 49, 50, 51, 52, 53, 54, 55, 56, 57, 58, 59, 60, 61, 62, 63, 64, 65, 66, 67, 68, 69, 70, 71, 72, 73, 74, 75, 76, 77, 78, 79, 80, 93, 94, 95, 96, 97, 98] (by decide +kernel) (by decide +kernel)
set_option maxRecDepth 20000 in
theorem gX6_advance_X6_readWord : GoodIn wsX6_advance (wsV RX6 41 RX6 yX6_readWord wsX6_readWord) := goodIn_app (goodIn_of _ (by decide +kernel)) ggX6_advance_X6_readWord
set_option maxRecDepth 20000 in
theorem ggX6_advance_X6_isDigit : GoodIn wsX6_advance wsX6_isDigit := goodIn_r _ [83] (by decide +kernel) (by decide +kernel)
set_option maxRecDepth 20000 in
theorem gX6_advance_X6_isDigit : GoodIn wsX6_advance (va_wsS RX6 44 yX6_isDigit wsX6_isDigit) := goodIn_app (goodIn_of _ (by decide +kernel)) ggX6_advance_X6_isDigit
set_option maxRecDepth 20000 in
theorem ggX6_advance_X6_readNumber : GoodIn wsX6_advance wsX6_readNumber := goodIn_r _ [87, 4, 2, 1, 3, 5, 88, 89, 90, 91, 9, 92, 7, 81, 82, 12, 83, 93, 94, 95, 96, 97, 98] (by decide +kernel) (by decide +kernel)
set_option maxRecDepth 20000 in
theorem gX6_advance_X6_readNumber : GoodIn wsX6_advance (wsV RX6 47 RX6 yX6_readNumber wsX6_readNumber) := goodIn_app (goodIn_of _ (by decide +kernel)) ggX6_advance_X6_readNumber
theorem dX6_advance_0 : decode cX6_advance 0 = .ok (.aload_n 0, 1) := by decide +kernel
theorem dX6_advance_1 : decode cX6_advance 1 = .ok (.aload_n 0, 1) := by decide +kernel
theorem dX6_advance_2 : decode cX6_advance 2 = .ok (.getfield 31, 3) := by decide +kernel
theorem dX6_advance_5 : decode cX6_advance 5 = .ok (.putfield 28, 3) := by decide +kernel
theorem dX6_advance_8 : decode cX6_advance 8 = .ok (.aload_n 0, 1) := by decide +kernel
theorem dX6_advance_9 : decode cX6_advance 9 = .ok (.getfield 28, 3) := by decide +kernel
theorem dX6_advance_12 : decode cX6_advance 12 = .ok (.aload_n 0, 1) := by decide +kernel
theorem dX6_advance_13 : decode cX6_advance 13 = .ok (.getfield 15, 3) := by decide +kernel
theorem dX6_advance_16 : decode cX6_advance 16 = .ok (.if_icmp .ge 30, 3) := by decide +kernel
theorem dX6_advance_19 : decode cX6_advance 19 = .ok (.aload_n 0, 1) := by decide +kernel
theorem dX6_advance_20 : decode cX6_advance 20 = .ok (.getfield 9, 3) := by decide +kernel
theorem dX6_advance_23 : decode cX6_advance 23 = .ok (.aload_n 0, 1) := by decide +kernel
theorem dX6_advance_24 : decode cX6_advance 24 = .ok (.getfield 28, 3) := by decide +kernel
theorem dX6_advance_27 : decode cX6_advance 27 = .ok (.iaload, 1) := by decide +kernel
theorem dX6_advance_28 : decode cX6_advance 28 = .ok (.bipush 32, 2) := by decide +kernel
theorem dX6_advance_30 : decode cX6_advance 30 = .ok (.if_icmp .ne 16, 3) := by decide +kernel
theorem dX6_advance_33 : decode cX6_advance 33 = .ok (.aload_n 0, 1) := by decide +kernel
theorem dX6_advance_34 : decode cX6_advance 34 = .ok (.dup, 1) := by decide +kernel
theorem dX6_advance_35 : decode cX6_advance 35 = .ok (.getfield 28, 3) := by decide +kernel
theorem dX6_advance_38 : decode cX6_advance 38 = .ok (.iconst 1, 1) := by decide +kernel
theorem dX6_advance_39 : decode cX6_advance 39 = .ok (.iadd, 1) := by decide +kernel
theorem dX6_advance_40 : decode cX6_advance 40 = .ok (.putfield 28, 3) := by decide +kernel
theorem dX6_advance_43 : decode cX6_advance 43 = .ok (.goto (-35), 3) := by decide +kernel
theorem dX6_advance_46 : decode cX6_advance 46 = .ok (.aload_n 0, 1) := by decide +kernel
theorem dX6_advance_47 : decode cX6_advance 47 = .ok (.aload_n 0, 1) := by decide +kernel
theorem dX6_advance_48 : decode cX6_advance 48 = .ok (.getfield 28, 3) := by decide +kernel
theorem dX6_advance_51 : decode cX6_advance 51 = .ok (.putfield 31, 3) := by decide +kernel
theorem dX6_advance_54 : decode cX6_advance 54 = .ok (.aload_n 0, 1) := by decide +kernel
theorem dX6_advance_55 : decode cX6_advance 55 = .ok (.iconst 0, 1) := by decide +kernel
theorem dX6_advance_56 : decode cX6_advance 56 = .ok (.putfield 34, 3) := by decide +kernel
theorem dX6_advance_59 : decode cX6_advance 59 = .ok (.aload_n 0, 1) := by decide +kernel
theorem dX6_advance_60 : decode cX6_advance 60 = .ok (.getfield 28, 3) := by decide +kernel
theorem dX6_advance_63 : decode cX6_advance 63 = .ok (.aload_n 0, 1) := by decide +kernel
theorem dX6_advance_64 : decode cX6_advance 64 = .ok (.getfield 15, 3) := by decide +kernel
theorem dX6_advance_67 : decode cX6_advance 67 = .ok (.if_icmp .lt 13, 3) := by decide +kernel
theorem dX6_advance_70 : decode cX6_advance 70 = .ok (.aload_n 0, 1) := by decide +kernel
theorem dX6_advance_71 : decode cX6_advance 71 = .ok (.getstatic 19, 3) := by decide +kernel
theorem dX6_advance_74 : decode cX6_advance 74 = .ok (.putfield 25, 3) := by decide +kernel
theorem dX6_advance_77 : decode cX6_advance 77 = .ok (.goto 84, 3) := by decide +kernel
theorem dX6_advance_80 : decode cX6_advance 80 = .ok (.aload_n 0, 1) := by decide +kernel
theorem dX6_advance_81 : decode cX6_advance 81 = .ok (.getfield 9, 3) := by decide +kernel
theorem dX6_advance_84 : decode cX6_advance 84 = .ok (.aload_n 0, 1) := by decide +kernel
theorem dX6_advance_85 : decode cX6_advance 85 = .ok (.getfield 28, 3) := by decide +kernel
theorem dX6_advance_88 : decode cX6_advance 88 = .ok (.iaload, 1) := by decide +kernel
theorem dX6_advance_89 : decode cX6_advance 89 = .ok (.invokestatic 37, 3) := by decide +kernel
theorem dX6_advance_92 : decode cX6_advance 92 = .ok (.ifCond .eq 10, 3) := by decide +kernel
theorem dX6_advance_95 : decode cX6_advance 95 = .ok (.aload_n 0, 1) := by decide +kernel
theorem dX6_advance_96 : decode cX6_advance 96 = .ok (.invokevirtual 41, 3) := by decide +kernel
theorem dX6_advance_99 : decode cX6_advance 99 = .ok (.goto 62, 3) := by decide +kernel
theorem dX6_advance_102 : decode cX6_advance 102 = .ok (.aload_n 0, 1) := by decide +kernel
theorem dX6_advance_103 : decode cX6_advance 103 = .ok (.getfield 9, 3) := by decide +kernel
theorem dX6_advance_106 : decode cX6_advance 106 = .ok (.aload_n 0, 1) := by decide +kernel
theorem dX6_advance_107 : decode cX6_advance 107 = .ok (.getfield 28, 3) := by decide +kernel
theorem dX6_advance_110 : decode cX6_advance 110 = .ok (.iaload, 1) := by decide +kernel
theorem dX6_advance_111 : decode cX6_advance 111 = .ok (.invokestatic 44, 3) := by decide +kernel
theorem dX6_advance_114 : decode cX6_advance 114 = .ok (.ifCond .eq 10, 3) := by decide +kernel
theorem dX6_advance_117 : decode cX6_advance 117 = .ok (.aload_n 0, 1) := by decide +kernel
theorem dX6_advance_118 : decode cX6_advance 118 = .ok (.invokevirtual 47, 3) := by decide +kernel
theorem dX6_advance_121 : decode cX6_advance 121 = .ok (.goto 40, 3) := by decide +kernel
theorem dX6_advance_124 : decode cX6_advance 124 = .ok (.aload_n 0, 1) := by decide +kernel
theorem dX6_advance_125 : decode cX6_advance 125 = .ok (.aload_n 0, 1) := by decide +kernel
theorem dX6_advance_126 : decode cX6_advance 126 = .ok (.getfield 9, 3) := by decide +kernel
theorem dX6_advance_129 : decode cX6_advance 129 = .ok (.aload_n 0, 1) := by decide +kernel
theorem dX6_advance_130 : decode cX6_advance 130 = .ok (.getfield 28, 3) := by decide +kernel
theorem dX6_advance_133 : decode cX6_advance 133 = .ok (.iaload, 1) := by decide +kernel
theorem dX6_advance_134 : decode cX6_advance 134 = .ok (.bipush 59, 2) := by decide +kernel
theorem dX6_advance_136 : decode cX6_advance 136 = .ok (.if_icmp .ne 9, 3) := by decide +kernel
theorem dX6_advance_139 : decode cX6_advance 139 = .ok (.getstatic 50, 3) := by decide +kernel
theorem dX6_advance_142 : decode cX6_advance 142 = .ok (.goto 6, 3) := by decide +kernel
theorem dX6_advance_145 : decode cX6_advance 145 = .ok (.getstatic 53, 3) := by decide +kernel
theorem dX6_advance_148 : decode cX6_advance 148 = .ok (.putfield 25, 3) := by decide +kernel
theorem dX6_advance_151 : decode cX6_advance 151 = .ok (.aload_n 0, 1) := by decide +kernel
theorem dX6_advance_152 : decode cX6_advance 152 = .ok (.dup, 1) := by decide +kernel
theorem dX6_advance_153 : decode cX6_advance 153 = .ok (.getfield 31, 3) := by decide +kernel
theorem dX6_advance_156 : decode cX6_advance 156 = .ok (.iconst 1, 1) := by decide +kernel
theorem dX6_advance_157 : decode cX6_advance 157 = .ok (.iadd, 1) := by decide +kernel
theorem dX6_advance_158 : decode cX6_advance 158 = .ok (.putfield 31, 3) := by decide +kernel
theorem dX6_advance_161 : decode cX6_advance 161 = .ok (.return_, 1) := by decide +kernel
set_option maxRecDepth 20000 in
theorem ggX6_readWord_X6_isLetter : GoodIn wsX6_readWord wsX6_isLetter := goodIn_r _ [13] (by decide +kernel) (by decide +kernel)
set_option maxRecDepth 20000 in
theorem gX6_readWord_X6_isLetter : GoodIn wsX6_readWord (va_wsS RX6 37 yX6_isLetter wsX6_isLetter) := goodIn_app (goodIn_of _ (by decide +kernel)) ggX6_readWord_X6_isLetter
set_option maxRecDepth 20000 in
theorem ggX6_readWord_X6_spells : GoodIn wsX6_readWord wsX6_spells := goodIn_r _ [17, 1, 18, 3, 19, 20, 21, 22, 23, 24, 25, 26, 27, 28, 29, 30, 31, 32, 33, 34, 35, 36, 37, 38, 39, 40, 41, 42, 43, 44, 45, 46, 47, 48, 49, 50, 51, 52, 53, 54, 55, 56, 57, 58, 59, 60, 61, 62, 63, 64, 65, 66, 67, 75, 76, 77, 78, 79, 80] (by decide +kernel) (by decide +kernel)
set_option maxRecDepth 20000 in
theorem gX6_readWord_X6_spells : GoodIn wsX6_readWord (wsV RX6 58 RX6 yX6_spells wsX6_spells) := goodIn_app (goodIn_of _ (by decide +kernel)) ggX6_readWord_X6_spells
set_option maxRecDepth 20000 in
theorem ggX6_readWord_X6_pattern : GoodIn wsX6_readWord wsX6_pattern := goodIn_r _ [71, 1, 18, 3, 72, 73, 12, 74, 75, 76, 77, 78, 79, 80] (by decide +kernel) (by decide +kernel)
set_option maxRecDepth 20000 in
theorem gX6_readWord_X6_pattern : GoodIn wsX6_readWord (wsV RX6 70 RX6 yX6_pattern wsX6_pattern) := goodIn_app (goodIn_of _ (by decide +kernel)) ggX6_readWord_X6_pattern
theorem dX6_readWord_0 : decode cX6_readWord 0 = .ok (.aload_n 0, 1) := by decide +kernel
theorem dX6_readWord_1 : decode cX6_readWord 1 = .ok (.getfield 31, 3) := by decide +kernel
theorem dX6_readWord_4 : decode cX6_readWord 4 = .ok (.aload_n 0, 1) := by decide +kernel
theorem dX6_readWord_5 : decode cX6_readWord 5 = .ok (.getfield 15, 3) := by decide +kernel
theorem dX6_readWord_8 : decode cX6_readWord 8 = .ok (.if_icmp .ge 31, 3) := by decide +kernel
theorem dX6_readWord_11 : decode cX6_readWord 11 = .ok (.aload_n 0, 1) := by decide +kernel
theorem dX6_readWord_12 : decode cX6_readWord 12 = .ok (.getfield 9, 3) := by decide +kernel
theorem dX6_readWord_15 : decode cX6_readWord 15 = .ok (.aload_n 0, 1) := by decide +kernel
theorem dX6_readWord_16 : decode cX6_readWord 16 = .ok (.getfield 31, 3) := by decide +kernel
theorem dX6_readWord_19 : decode cX6_readWord 19 = .ok (.iaload, 1) := by decide +kernel
theorem dX6_readWord_20 : decode cX6_readWord 20 = .ok (.invokestatic 37, 3) := by decide +kernel
theorem dX6_readWord_23 : decode cX6_readWord 23 = .ok (.ifCond .eq 16, 3) := by decide +kernel
theorem dX6_readWord_26 : decode cX6_readWord 26 = .ok (.aload_n 0, 1) := by decide +kernel
theorem dX6_readWord_27 : decode cX6_readWord 27 = .ok (.dup, 1) := by decide +kernel
theorem dX6_readWord_28 : decode cX6_readWord 28 = .ok (.getfield 31, 3) := by decide +kernel
theorem dX6_readWord_31 : decode cX6_readWord 31 = .ok (.iconst 1, 1) := by decide +kernel
theorem dX6_readWord_32 : decode cX6_readWord 32 = .ok (.iadd, 1) := by decide +kernel
theorem dX6_readWord_33 : decode cX6_readWord 33 = .ok (.putfield 31, 3) := by decide +kernel
