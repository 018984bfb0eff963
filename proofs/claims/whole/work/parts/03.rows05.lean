theorem dX10_turn_0 : decode cX10_turn 0 = .ok (.aload_n 0, 1) := by decide +kernel
theorem dX10_turn_1 : decode cX10_turn 1 = .ok (.iconst 0, 1) := by decide +kernel
theorem dX10_turn_2 : decode cX10_turn 2 = .ok (.putfield 45, 3) := by decide +kernel
theorem dX10_turn_5 : decode cX10_turn 5 = .ok (.iload_n 1, 1) := by decide +kernel
theorem dX10_turn_6 : decode cX10_turn 6 = .ok (.iconst 1, 1) := by decide +kernel
theorem dX10_turn_7 : decode cX10_turn 7 = .ok (.bipush 60, 2) := by decide +kernel
theorem dX10_turn_9 : decode cX10_turn 9 = .ok (.invokestatic 48, 3) := by decide +kernel
theorem dX10_turn_12 : decode cX10_turn 12 = .ok (.ifCond .eq 29, 3) := by decide +kernel
theorem dX10_turn_15 : decode cX10_turn 15 = .ok (.iload_n 2, 1) := by decide +kernel
theorem dX10_turn_16 : decode cX10_turn 16 = .ok (.iconst 0, 1) := by decide +kernel
theorem dX10_turn_17 : decode cX10_turn 17 = .ok (.iconst 1, 1) := by decide +kernel
theorem dX10_turn_18 : decode cX10_turn 18 = .ok (.invokestatic 48, 3) := by decide +kernel
theorem dX10_turn_21 : decode cX10_turn 21 = .ok (.ifCond .eq 20, 3) := by decide +kernel
theorem dX10_turn_24 : decode cX10_turn 24 = .ok (.aload_n 0, 1) := by decide +kernel
theorem dX10_turn_25 : decode cX10_turn 25 = .ok (.iload_n 1, 1) := by decide +kernel
theorem dX10_turn_26 : decode cX10_turn 26 = .ok (.iload_n 2, 1) := by decide +kernel
theorem dX10_turn_27 : decode cX10_turn 27 = .ok (.ifCond .ne 7, 3) := by decide +kernel
theorem dX10_turn_30 : decode cX10_turn 30 = .ok (.iconst 1, 1) := by decide +kernel
theorem dX10_turn_31 : decode cX10_turn 31 = .ok (.goto 4, 3) := by decide +kernel
theorem dX10_turn_34 : decode cX10_turn 34 = .ok (.iconst (-1), 1) := by decide +kernel
theorem dX10_turn_35 : decode cX10_turn 35 = .ok (.invokevirtual 163, 3) := by decide +kernel
theorem dX10_turn_38 : decode cX10_turn 38 = .ok (.goto 4, 3) := by decide +kernel
theorem dX10_turn_41 : decode cX10_turn 41 = .ok (.iconst (-1), 1) := by decide +kernel
theorem dX10_turn_42 : decode cX10_turn 42 = .ok (.ireturn, 1) := by decide +kernel
set_option maxRecDepth 20000 in
theorem ggX10_stops_X10_moves : GoodIn wsX10_stops wsX10_moves := goodIn_r _ [8, 2, 3, 9, 10, 11, 12, 13, 14, 15, 16, 17, 18, 19, 20, 21, 22, 23, 24, 25, 26, 27, 28, 29, 30, 31, 32] (by decide +kernel) (by decide +kernel)
set_option maxRecDepth 20000 in
theorem gX10_stops_X10_moves : GoodIn wsX10_stops (wsV RX10 163 RX10 yX10_moves wsX10_moves) := goodIn_app (goodIn_of _ (by decide +kernel)) ggX10_stops_X10_moves
theorem dX10_stops_0 : decode cX10_stops 0 = .ok (.aload_n 0, 1) := by decide +kernel
theorem dX10_stops_1 : decode cX10_stops 1 = .ok (.iconst 0, 1) := by decide +kernel
theorem dX10_stops_2 : decode cX10_stops 2 = .ok (.putfield 45, 3) := by decide +kernel
theorem dX10_stops_5 : decode cX10_stops 5 = .ok (.iconst 0, 1) := by decide +kernel
theorem dX10_stops_6 : decode cX10_stops 6 = .ok (.istore_n 1, 1) := by decide +kernel
theorem dX10_stops_7 : decode cX10_stops 7 = .ok (.aload_n 0, 1) := by decide +kernel
theorem dX10_stops_8 : decode cX10_stops 8 = .ok (.getfield 160, 3) := by decide +kernel
theorem dX10_stops_11 : decode cX10_stops 11 = .ok (.ifCond .le 7, 3) := by decide +kernel
theorem dX10_stops_14 : decode cX10_stops 14 = .ok (.iconst 1, 1) := by decide +kernel
theorem dX10_stops_15 : decode cX10_stops 15 = .ok (.goto 4, 3) := by decide +kernel
theorem dX10_stops_18 : decode cX10_stops 18 = .ok (.iconst 0, 1) := by decide +kernel
theorem dX10_stops_19 : decode cX10_stops 19 = .ok (.istore_n 2, 1) := by decide +kernel
theorem dX10_stops_20 : decode cX10_stops 20 = .ok (.iload_n 2, 1) := by decide +kernel
theorem dX10_stops_21 : decode cX10_stops 21 = .ok (.ifCond .eq 94, 3) := by decide +kernel
theorem dX10_stops_24 : decode cX10_stops 24 = .ok (.aload_n 0, 1) := by decide +kernel
theorem dX10_stops_25 : decode cX10_stops 25 = .ok (.getfield 29, 3) := by decide +kernel
theorem dX10_stops_28 : decode cX10_stops 28 = .ok (.aload_n 0, 1) := by decide +kernel
theorem dX10_stops_29 : decode cX10_stops 29 = .ok (.getfield 160, 3) := by decide +kernel
theorem dX10_stops_32 : decode cX10_stops 32 = .ok (.iconst 1, 1) := by decide +kernel
theorem dX10_stops_33 : decode cX10_stops 33 = .ok (.isub, 1) := by decide +kernel
theorem dX10_stops_34 : decode cX10_stops 34 = .ok (.iaload, 1) := by decide +kernel
theorem dX10_stops_35 : decode cX10_stops 35 = .ok (.istore_n 3, 1) := by decide +kernel
theorem dX10_stops_36 : decode cX10_stops 36 = .ok (.aload_n 0, 1) := by decide +kernel
theorem dX10_stops_37 : decode cX10_stops 37 = .ok (.iload_n 1, 1) := by decide +kernel
theorem dX10_stops_38 : decode cX10_stops 38 = .ok (.iconst 1, 1) := by decide +kernel
theorem dX10_stops_39 : decode cX10_stops 39 = .ok (.iadd, 1) := by decide +kernel
theorem dX10_stops_40 : decode cX10_stops 40 = .ok (.iload_n 3, 1) := by decide +kernel
theorem dX10_stops_41 : decode cX10_stops 41 = .ok (.sipush 500, 3) := by decide +kernel
theorem dX10_stops_44 : decode cX10_stops 44 = .ok (.if_icmp .lt 7, 3) := by decide +kernel
theorem dX10_stops_47 : decode cX10_stops 47 = .ok (.iconst (-1), 1) := by decide +kernel
theorem dX10_stops_48 : decode cX10_stops 48 = .ok (.goto 4, 3) := by decide +kernel
theorem dX10_stops_51 : decode cX10_stops 51 = .ok (.iconst 1, 1) := by decide +kernel
theorem dX10_stops_52 : decode cX10_stops 52 = .ok (.invokevirtual 163, 3) := by decide +kernel
theorem dX10_stops_55 : decode cX10_stops 55 = .ok (.istore 4, 2) := by decide +kernel
theorem dX10_stops_57 : decode cX10_stops 57 = .ok (.iload 4, 2) := by decide +kernel
theorem dX10_stops_59 : decode cX10_stops 59 = .ok (.bipush (-9), 2) := by decide +kernel
theorem dX10_stops_61 : decode cX10_stops 61 = .ok (.if_icmp .eq 37, 3) := by decide +kernel
theorem dX10_stops_64 : decode cX10_stops 64 = .ok (.iload_n 3, 1) := by decide +kernel
theorem dX10_stops_65 : decode cX10_stops 65 = .ok (.sipush 500, 3) := by decide +kernel
theorem dX10_stops_68 : decode cX10_stops 68 = .ok (.if_icmp .lt 16, 3) := by decide +kernel
theorem dX10_stops_71 : decode cX10_stops 71 = .ok (.iload_n 3, 1) := by decide +kernel
theorem dX10_stops_72 : decode cX10_stops 72 = .ok (.iload 4, 2) := by decide +kernel
theorem dX10_stops_74 : decode cX10_stops 74 = .ok (.isub, 1) := by decide +kernel
theorem dX10_stops_75 : decode cX10_stops 75 = .ok (.sipush 500, 3) := by decide +kernel
theorem dX10_stops_78 : decode cX10_stops 78 = .ok (.if_icmp .lt 20, 3) := by decide +kernel
theorem dX10_stops_81 : decode cX10_stops 81 = .ok (.goto 13, 3) := by decide +kernel
theorem dX10_stops_84 : decode cX10_stops 84 = .ok (.iload_n 3, 1) := by decide +kernel
theorem dX10_stops_85 : decode cX10_stops 85 = .ok (.iload 4, 2) := by decide +kernel
theorem dX10_stops_87 : decode cX10_stops 87 = .ok (.iadd, 1) := by decide +kernel
theorem dX10_stops_88 : decode cX10_stops 88 = .ok (.sipush 500, 3) := by decide +kernel
theorem dX10_stops_91 : decode cX10_stops 91 = .ok (.if_icmp .ge 7, 3) := by decide +kernel
theorem dX10_stops_94 : decode cX10_stops 94 = .ok (.iconst 1, 1) := by decide +kernel
theorem dX10_stops_95 : decode cX10_stops 95 = .ok (.goto 4, 3) := by decide +kernel
theorem dX10_stops_98 : decode cX10_stops 98 = .ok (.iconst 0, 1) := by decide +kernel
theorem dX10_stops_99 : decode cX10_stops 99 = .ok (.istore_n 2, 1) := by decide +kernel
theorem dX10_stops_100 : decode cX10_stops 100 = .ok (.iload_n 1, 1) := by decide +kernel
theorem dX10_stops_101 : decode cX10_stops 101 = .ok (.iload_n 2, 1) := by decide +kernel
theorem dX10_stops_102 : decode cX10_stops 102 = .ok (.ifCond .eq 7, 3) := by decide +kernel
theorem dX10_stops_105 : decode cX10_stops 105 = .ok (.iconst 1, 1) := by decide +kernel
theorem dX10_stops_106 : decode cX10_stops 106 = .ok (.goto 4, 3) := by decide +kernel
theorem dX10_stops_109 : decode cX10_stops 109 = .ok (.iconst 0, 1) := by decide +kernel
theorem dX10_stops_110 : decode cX10_stops 110 = .ok (.iadd, 1) := by decide +kernel
theorem dX10_stops_111 : decode cX10_stops 111 = .ok (.istore_n 1, 1) := by decide +kernel
theorem dX10_stops_112 : decode cX10_stops 112 = .ok (.goto (-92), 3) := by decide +kernel
theorem dX10_stops_115 : decode cX10_stops 115 = .ok (.iload_n 1, 1) := by decide +kernel
theorem dX10_stops_116 : decode cX10_stops 116 = .ok (.ireturn, 1) := by decide +kernel
set_option maxRecDepth 20000 in
theorem ggX10_house_X10_in : GoodIn wsX10_house wsX10_in := goodIn_r _ [7] (by decide +kernel) (by decide +kernel)
set_option maxRecDepth 20000 in
theorem gX10_house_X10_in : GoodIn wsX10_house (va_wsS RX10 48 yX10_in wsX10_in) := goodIn_app (goodIn_of _ (by decide +kernel)) ggX10_house_X10_in
theorem dX10_house_0 : decode cX10_house 0 = .ok (.aload_n 0, 1) := by decide +kernel
theorem dX10_house_1 : decode cX10_house 1 = .ok (.iconst 0, 1) := by decide +kernel
theorem dX10_house_2 : decode cX10_house 2 = .ok (.putfield 45, 3) := by decide +kernel
theorem dX10_house_5 : decode cX10_house 5 = .ok (.iload_n 1, 1) := by decide +kernel
theorem dX10_house_6 : decode cX10_house 6 = .ok (.iconst 0, 1) := by decide +kernel
theorem dX10_house_7 : decode cX10_house 7 = .ok (.sipush 1000, 3) := by decide +kernel
theorem dX10_house_10 : decode cX10_house 10 = .ok (.invokestatic 48, 3) := by decide +kernel
theorem dX10_house_13 : decode cX10_house 13 = .ok (.ifCond .eq 25, 3) := by decide +kernel
theorem dX10_house_16 : decode cX10_house 16 = .ok (.iload_n 2, 1) := by decide +kernel
theorem dX10_house_17 : decode cX10_house 17 = .ok (.iconst 0, 1) := by decide +kernel
theorem dX10_house_18 : decode cX10_house 18 = .ok (.sipush 1000, 3) := by decide +kernel
theorem dX10_house_21 : decode cX10_house 21 = .ok (.invokestatic 48, 3) := by decide +kernel
theorem dX10_house_24 : decode cX10_house 24 = .ok (.ifCond .eq 14, 3) := by decide +kernel
theorem dX10_house_27 : decode cX10_house 27 = .ok (.iload_n 3, 1) := by decide +kernel
theorem dX10_house_28 : decode cX10_house 28 = .ok (.iconst 0, 1) := by decide +kernel
theorem dX10_house_29 : decode cX10_house 29 = .ok (.sipush 1000, 3) := by decide +kernel
theorem dX10_house_32 : decode cX10_house 32 = .ok (.invokestatic 48, 3) := by decide +kernel
theorem dX10_house_35 : decode cX10_house 35 = .ok (.ifCond .ne 5, 3) := by decide +kernel
theorem dX10_house_38 : decode cX10_house 38 = .ok (.iconst (-1), 1) := by decide +kernel
theorem dX10_house_39 : decode cX10_house 39 = .ok (.ireturn, 1) := by decide +kernel
theorem dX10_house_40 : decode cX10_house 40 = .ok (.aload_n 0, 1) := by decide +kernel
theorem dX10_house_41 : decode cX10_house 41 = .ok (.getfield 166, 3) := by decide +kernel
theorem dX10_house_44 : decode cX10_house 44 = .ok (.bipush 24, 2) := by decide +kernel
theorem dX10_house_46 : decode cX10_house 46 = .ok (.if_icmp .ne 6, 3) := by decide +kernel
theorem dX10_house_49 : decode cX10_house 49 = .ok (.bipush (-3), 2) := by decide +kernel
theorem dX10_house_51 : decode cX10_house 51 = .ok (.ireturn, 1) := by decide +kernel
theorem dX10_house_52 : decode cX10_house 52 = .ok (.aload_n 0, 1) := by decide +kernel
theorem dX10_house_53 : decode cX10_house 53 = .ok (.getfield 32, 3) := by decide +kernel
theorem dX10_house_56 : decode cX10_house 56 = .ok (.iconst 3, 1) := by decide +kernel
theorem dX10_house_57 : decode cX10_house 57 = .ok (.aload_n 0, 1) := by decide +kernel
theorem dX10_house_58 : decode cX10_house 58 = .ok (.getfield 166, 3) := by decide +kernel
theorem dX10_house_61 : decode cX10_house 61 = .ok (.imul, 1) := by decide +kernel
theorem dX10_house_62 : decode cX10_house 62 = .ok (.iload_n 1, 1) := by decide +kernel
theorem dX10_house_63 : decode cX10_house 63 = .ok (.iastore, 1) := by decide +kernel
theorem dX10_house_64 : decode cX10_house 64 = .ok (.aload_n 0, 1) := by decide +kernel
theorem dX10_house_65 : decode cX10_house 65 = .ok (.getfield 32, 3) := by decide +kernel
theorem dX10_house_68 : decode cX10_house 68 = .ok (.iconst 3, 1) := by decide +kernel
theorem dX10_house_69 : decode cX10_house 69 = .ok (.aload_n 0, 1) := by decide +kernel
theorem dX10_house_70 : decode cX10_house 70 = .ok (.getfield 166, 3) := by decide +kernel
theorem dX10_house_73 : decode cX10_house 73 = .ok (.imul, 1) := by decide +kernel
theorem dX10_house_74 : decode cX10_house 74 = .ok (.iconst 1, 1) := by decide +kernel
theorem dX10_house_75 : decode cX10_house 75 = .ok (.iadd, 1) := by decide +kernel
theorem dX10_house_76 : decode cX10_house 76 = .ok (.iload_n 2, 1) := by decide +kernel
theorem dX10_house_77 : decode cX10_house 77 = .ok (.iastore, 1) := by decide +kernel
theorem dX10_house_78 : decode cX10_house 78 = .ok (.aload_n 0, 1) := by decide +kernel
theorem dX10_house_79 : decode cX10_house 79 = .ok (.getfield 32, 3) := by decide +kernel
theorem dX10_house_82 : decode cX10_house 82 = .ok (.iconst 3, 1) := by decide +kernel
theorem dX10_house_83 : decode cX10_house 83 = .ok (.aload_n 0, 1) := by decide +kernel
theorem dX10_house_84 : decode cX10_house 84 = .ok (.getfield 166, 3) := by decide +kernel
theorem dX10_house_87 : decode cX10_house 87 = .ok (.imul, 1) := by decide +kernel
theorem dX10_house_88 : decode cX10_house 88 = .ok (.iconst 2, 1) := by decide +kernel
theorem dX10_house_89 : decode cX10_house 89 = .ok (.iadd, 1) := by decide +kernel
theorem dX10_house_90 : decode cX10_house 90 = .ok (.iload_n 3, 1) := by decide +kernel
theorem dX10_house_91 : decode cX10_house 91 = .ok (.iastore, 1) := by decide +kernel
theorem dX10_house_92 : decode cX10_house 92 = .ok (.aload_n 0, 1) := by decide +kernel
theorem dX10_house_93 : decode cX10_house 93 = .ok (.dup, 1) := by decide +kernel
theorem dX10_house_94 : decode cX10_house 94 = .ok (.getfield 166, 3) := by decide +kernel
theorem dX10_house_97 : decode cX10_house 97 = .ok (.iconst 1, 1) := by decide +kernel
theorem dX10_house_98 : decode cX10_house 98 = .ok (.iadd, 1) := by decide +kernel
theorem dX10_house_99 : decode cX10_house 99 = .ok (.putfield 166, 3) := by decide +kernel
theorem dX10_house_102 : decode cX10_house 102 = .ok (.aload_n 0, 1) := by decide +kernel
theorem dX10_house_103 : decode cX10_house 103 = .ok (.getfield 166, 3) := by decide +kernel
theorem dX10_house_106 : decode cX10_house 106 = .ok (.ireturn, 1) := by decide +kernel
theorem dX10_heldBy_0 : decode cX10_heldBy 0 = .ok (.iconst 0, 1) := by decide +kernel
theorem dX10_heldBy_1 : decode cX10_heldBy 1 = .ok (.istore_n 2, 1) := by decide +kernel
theorem dX10_heldBy_2 : decode cX10_heldBy 2 = .ok (.iconst 0, 1) := by decide +kernel
theorem dX10_heldBy_3 : decode cX10_heldBy 3 = .ok (.istore_n 3, 1) := by decide +kernel
theorem dX10_heldBy_4 : decode cX10_heldBy 4 = .ok (.iload_n 3, 1) := by decide +kernel
theorem dX10_heldBy_5 : decode cX10_heldBy 5 = .ok (.aload_n 0, 1) := by decide +kernel
theorem dX10_heldBy_6 : decode cX10_heldBy 6 = .ok (.getfield 166, 3) := by decide +kernel
theorem dX10_heldBy_9 : decode cX10_heldBy 9 = .ok (.if_icmp .ge 66, 3) := by decide +kernel
theorem dX10_heldBy_12 : decode cX10_heldBy 12 = .ok (.aload_n 0, 1) := by decide +kernel
theorem dX10_heldBy_13 : decode cX10_heldBy 13 = .ok (.getfield 32, 3) := by decide +kernel
theorem dX10_heldBy_16 : decode cX10_heldBy 16 = .ok (.iconst 3, 1) := by decide +kernel
theorem dX10_heldBy_17 : decode cX10_heldBy 17 = .ok (.iload_n 3, 1) := by decide +kernel
theorem dX10_heldBy_18 : decode cX10_heldBy 18 = .ok (.imul, 1) := by decide +kernel
theorem dX10_heldBy_19 : decode cX10_heldBy 19 = .ok (.iaload, 1) := by decide +kernel
theorem dX10_heldBy_20 : decode cX10_heldBy 20 = .ok (.aload_n 0, 1) := by decide +kernel
theorem dX10_heldBy_21 : decode cX10_heldBy 21 = .ok (.getfield 32, 3) := by decide +kernel
theorem dX10_heldBy_24 : decode cX10_heldBy 24 = .ok (.iconst 3, 1) := by decide +kernel
theorem dX10_heldBy_25 : decode cX10_heldBy 25 = .ok (.iload_n 3, 1) := by decide +kernel
theorem dX10_heldBy_26 : decode cX10_heldBy 26 = .ok (.imul, 1) := by decide +kernel
theorem dX10_heldBy_27 : decode cX10_heldBy 27 = .ok (.iconst 2, 1) := by decide +kernel
theorem dX10_heldBy_28 : decode cX10_heldBy 28 = .ok (.iadd, 1) := by decide +kernel
theorem dX10_heldBy_29 : decode cX10_heldBy 29 = .ok (.iaload, 1) := by decide +kernel
theorem dX10_heldBy_30 : decode cX10_heldBy 30 = .ok (.isub, 1) := by decide +kernel
theorem dX10_heldBy_31 : decode cX10_heldBy 31 = .ok (.istore 4, 2) := by decide +kernel
theorem dX10_heldBy_33 : decode cX10_heldBy 33 = .ok (.iload_n 2, 1) := by decide +kernel
theorem dX10_heldBy_34 : decode cX10_heldBy 34 = .ok (.iload 4, 2) := by decide +kernel
theorem dX10_heldBy_36 : decode cX10_heldBy 36 = .ok (.ifCond .ge 9, 3) := by decide +kernel
theorem dX10_heldBy_39 : decode cX10_heldBy 39 = .ok (.iload 4, 2) := by decide +kernel
theorem dX10_heldBy_41 : decode cX10_heldBy 41 = .ok (.ineg, 1) := by decide +kernel
theorem dX10_heldBy_42 : decode cX10_heldBy 42 = .ok (.goto 5, 3) := by decide +kernel
theorem dX10_heldBy_45 : decode cX10_heldBy 45 = .ok (.iload 4, 2) := by decide +kernel
theorem dX10_heldBy_47 : decode cX10_heldBy 47 = .ok (.aload_n 0, 1) := by decide +kernel
theorem dX10_heldBy_48 : decode cX10_heldBy 48 = .ok (.getfield 32, 3) := by decide +kernel
theorem dX10_heldBy_51 : decode cX10_heldBy 51 = .ok (.iconst 3, 1) := by decide +kernel
theorem dX10_heldBy_52 : decode cX10_heldBy 52 = .ok (.iload_n 3, 1) := by decide +kernel
theorem dX10_heldBy_53 : decode cX10_heldBy 53 = .ok (.imul, 1) := by decide +kernel
theorem dX10_heldBy_54 : decode cX10_heldBy 54 = .ok (.iconst 1, 1) := by decide +kernel
theorem dX10_heldBy_55 : decode cX10_heldBy 55 = .ok (.iadd, 1) := by decide +kernel
theorem dX10_heldBy_56 : decode cX10_heldBy 56 = .ok (.iaload, 1) := by decide +kernel
theorem dX10_heldBy_57 : decode cX10_heldBy 57 = .ok (.iload_n 1, 1) := by decide +kernel
theorem dX10_heldBy_58 : decode cX10_heldBy 58 = .ok (.iadd, 1) := by decide +kernel
theorem dX10_heldBy_59 : decode cX10_heldBy 59 = .ok (.if_icmp .gt 7, 3) := by decide +kernel
theorem dX10_heldBy_62 : decode cX10_heldBy 62 = .ok (.iconst 1, 1) := by decide +kernel
theorem dX10_heldBy_63 : decode cX10_heldBy 63 = .ok (.goto 4, 3) := by decide +kernel
theorem dX10_heldBy_66 : decode cX10_heldBy 66 = .ok (.iconst 0, 1) := by decide +kernel
theorem dX10_heldBy_67 : decode cX10_heldBy 67 = .ok (.iadd, 1) := by decide +kernel
theorem dX10_heldBy_68 : decode cX10_heldBy 68 = .ok (.istore_n 2, 1) := by decide +kernel
theorem dX10_heldBy_69 : decode cX10_heldBy 69 = .ok (.iinc 3 1, 3) := by decide +kernel
theorem dX10_heldBy_72 : decode cX10_heldBy 72 = .ok (.goto (-68), 3) := by decide +kernel
theorem dX10_heldBy_75 : decode cX10_heldBy 75 = .ok (.iload_n 2, 1) := by decide +kernel
theorem dX10_heldBy_76 : decode cX10_heldBy 76 = .ok (.ireturn, 1) := by decide +kernel
set_option maxRecDepth 20000 in
theorem ggX10_held_X10_in : GoodIn wsX10_held wsX10_in := goodIn_r _ [5] (by decide +kernel) (by decide +kernel)
set_option maxRecDepth 20000 in
theorem gX10_held_X10_in : GoodIn wsX10_held (va_wsS RX10 48 yX10_in wsX10_in) := goodIn_app (goodIn_of _ (by decide +kernel)) ggX10_held_X10_in
set_option maxRecDepth 20000 in
theorem ggX10_held_X10_heldBy : GoodIn wsX10_held wsX10_heldBy := goodIn_r _ [9, 10, 11, 12, 13, 14, 15, 16, 17, 18, 19, 20, 21, 22, 23, 24, 25, 26, 27, 28, 29, 30, 31, 32, 33, 34, 35] (by decide +kernel) (by decide +kernel)
set_option maxRecDepth 20000 in
theorem gX10_held_X10_heldBy : GoodIn wsX10_held (wsV RX10 169 RX10 yX10_heldBy wsX10_heldBy) := goodIn_app (goodIn_of _ (by decide +kernel)) ggX10_held_X10_heldBy
theorem dX10_held_0 : decode cX10_held 0 = .ok (.aload_n 0, 1) := by decide +kernel
theorem dX10_held_1 : decode cX10_held 1 = .ok (.iconst 0, 1) := by decide +kernel
theorem dX10_held_2 : decode cX10_held 2 = .ok (.putfield 45, 3) := by decide +kernel
theorem dX10_held_5 : decode cX10_held 5 = .ok (.iload_n 1, 1) := by decide +kernel
theorem dX10_held_6 : decode cX10_held 6 = .ok (.iconst 0, 1) := by decide +kernel
theorem dX10_held_7 : decode cX10_held 7 = .ok (.sipush 1000, 3) := by decide +kernel
theorem dX10_held_10 : decode cX10_held 10 = .ok (.invokestatic 48, 3) := by decide +kernel
theorem dX10_held_13 : decode cX10_held 13 = .ok (.ifCond .eq 11, 3) := by decide +kernel
theorem dX10_held_16 : decode cX10_held 16 = .ok (.aload_n 0, 1) := by decide +kernel
theorem dX10_held_17 : decode cX10_held 17 = .ok (.iload_n 1, 1) := by decide +kernel
theorem dX10_held_18 : decode cX10_held 18 = .ok (.invokevirtual 169, 3) := by decide +kernel
theorem dX10_held_21 : decode cX10_held 21 = .ok (.goto 4, 3) := by decide +kernel
theorem dX10_held_24 : decode cX10_held 24 = .ok (.iconst (-1), 1) := by decide +kernel
theorem dX10_held_25 : decode cX10_held 25 = .ok (.ireturn, 1) := by decide +kernel
set_option maxRecDepth 20000 in
theorem ggX10_wider_X10_in : GoodIn wsX10_wider wsX10_in := goodIn_r _ [6] (by decide +kernel) (by decide +kernel)
set_option maxRecDepth 20000 in
theorem gX10_wider_X10_in : GoodIn wsX10_wider (va_wsS RX10 48 yX10_in wsX10_in) := goodIn_app (goodIn_of _ (by decide +kernel)) ggX10_wider_X10_in
set_option maxRecDepth 20000 in
theorem ggX10_wider_X10_heldBy : GoodIn wsX10_wider wsX10_heldBy := goodIn_r _ [10, 2, 11, 12, 13, 14, 15, 16, 17, 18, 19, 20, 21, 22, 23, 24, 25, 26, 27, 28, 29, 30, 31, 32, 33, 34, 35] (by decide +kernel) (by decide +kernel)
set_option maxRecDepth 20000 in
theorem gX10_wider_X10_heldBy : GoodIn wsX10_wider (wsV RX10 169 RX10 yX10_heldBy wsX10_heldBy) := goodIn_app (goodIn_of _ (by decide +kernel)) ggX10_wider_X10_heldBy
theorem dX10_wider_0 : decode cX10_wider 0 = .ok (.aload_n 0, 1) := by decide +kernel
theorem dX10_wider_1 : decode cX10_wider 1 = .ok (.iconst 0, 1) := by decide +kernel
theorem dX10_wider_2 : decode cX10_wider 2 = .ok (.putfield 45, 3) := by decide +kernel
theorem dX10_wider_5 : decode cX10_wider 5 = .ok (.iload_n 1, 1) := by decide +kernel
theorem dX10_wider_6 : decode cX10_wider 6 = .ok (.iconst 0, 1) := by decide +kernel
theorem dX10_wider_7 : decode cX10_wider 7 = .ok (.bipush 24, 2) := by decide +kernel
theorem dX10_wider_9 : decode cX10_wider 9 = .ok (.invokestatic 48, 3) := by decide +kernel
theorem dX10_wider_12 : decode cX10_wider 12 = .ok (.ifCond .ne 5, 3) := by decide +kernel
theorem dX10_wider_15 : decode cX10_wider 15 = .ok (.iconst (-1), 1) := by decide +kernel
theorem dX10_wider_16 : decode cX10_wider 16 = .ok (.ireturn, 1) := by decide +kernel
theorem dX10_wider_17 : decode cX10_wider 17 = .ok (.iload_n 1, 1) := by decide +kernel
theorem dX10_wider_18 : decode cX10_wider 18 = .ok (.aload_n 0, 1) := by decide +kernel
theorem dX10_wider_19 : decode cX10_wider 19 = .ok (.getfield 166, 3) := by decide +kernel
theorem dX10_wider_22 : decode cX10_wider 22 = .ok (.if_icmp .le 6, 3) := by decide +kernel
theorem dX10_wider_25 : decode cX10_wider 25 = .ok (.bipush (-9), 2) := by decide +kernel
theorem dX10_wider_27 : decode cX10_wider 27 = .ok (.ireturn, 1) := by decide +kernel
theorem dX10_wider_28 : decode cX10_wider 28 = .ok (.iconst 0, 1) := by decide +kernel
theorem dX10_wider_29 : decode cX10_wider 29 = .ok (.istore_n 2, 1) := by decide +kernel
theorem dX10_wider_30 : decode cX10_wider 30 = .ok (.aload_n 0, 1) := by decide +kernel
theorem dX10_wider_31 : decode cX10_wider 31 = .ok (.iload_n 2, 1) := by decide +kernel
theorem dX10_wider_32 : decode cX10_wider 32 = .ok (.invokevirtual 169, 3) := by decide +kernel
theorem dX10_wider_35 : decode cX10_wider 35 = .ok (.iload_n 1, 1) := by decide +kernel
theorem dX10_wider_36 : decode cX10_wider 36 = .ok (.if_icmp .ge 9, 3) := by decide +kernel
theorem dX10_wider_39 : decode cX10_wider 39 = .ok (.iinc 2 1, 3) := by decide +kernel
theorem dX10_wider_42 : decode cX10_wider 42 = .ok (.goto (-12), 3) := by decide +kernel
theorem dX10_wider_45 : decode cX10_wider 45 = .ok (.iload_n 2, 1) := by decide +kernel
theorem dX10_wider_46 : decode cX10_wider 46 = .ok (.ireturn, 1) := by decide +kernel
set_option maxRecDepth 20000 in
theorem ggX10_price_X10_in : GoodIn wsX10_price wsX10_in := goodIn_r _ [8] (by decide +kernel) (by decide +kernel)
set_option maxRecDepth 20000 in
theorem gX10_price_X10_in : GoodIn wsX10_price (va_wsS RX10 48 yX10_in wsX10_in) := goodIn_app (goodIn_of _ (by decide +kernel)) ggX10_price_X10_in
theorem dX10_price_0 : decode cX10_price 0 = .ok (.aload_n 0, 1) := by decide +kernel
theorem dX10_price_1 : decode cX10_price 1 = .ok (.iconst 0, 1) := by decide +kernel
theorem dX10_price_2 : decode cX10_price 2 = .ok (.putfield 45, 3) := by decide +kernel
theorem dX10_price_5 : decode cX10_price 5 = .ok (.iload_n 1, 1) := by decide +kernel
theorem dX10_price_6 : decode cX10_price 6 = .ok (.iconst 0, 1) := by decide +kernel
theorem dX10_price_7 : decode cX10_price 7 = .ok (.iconst 2, 1) := by decide +kernel
theorem dX10_price_8 : decode cX10_price 8 = .ok (.invokestatic 48, 3) := by decide +kernel
theorem dX10_price_11 : decode cX10_price 11 = .ok (.ifCond .eq 32, 3) := by decide +kernel
theorem dX10_price_14 : decode cX10_price 14 = .ok (.iload_n 2, 1) := by decide +kernel
theorem dX10_price_15 : decode cX10_price 15 = .ok (.iload_n 1, 1) := by decide +kernel
theorem dX10_price_16 : decode cX10_price 16 = .ok (.iconst 2, 1) := by decide +kernel
theorem dX10_price_17 : decode cX10_price 17 = .ok (.if_icmp .ne 7, 3) := by decide +kernel
theorem dX10_price_20 : decode cX10_price 20 = .ok (.iconst 1, 1) := by decide +kernel
theorem dX10_price_21 : decode cX10_price 21 = .ok (.goto 4, 3) := by decide +kernel
theorem dX10_price_24 : decode cX10_price 24 = .ok (.iconst 0, 1) := by decide +kernel
theorem dX10_price_25 : decode cX10_price 25 = .ok (.iload_n 1, 1) := by decide +kernel
theorem dX10_price_26 : decode cX10_price 26 = .ok (.iconst 2, 1) := by decide +kernel
theorem dX10_price_27 : decode cX10_price 27 = .ok (.if_icmp .ne 8, 3) := by decide +kernel
theorem dX10_price_30 : decode cX10_price 30 = .ok (.bipush 100, 2) := by decide +kernel
theorem dX10_price_32 : decode cX10_price 32 = .ok (.goto 5, 3) := by decide +kernel
theorem dX10_price_35 : decode cX10_price 35 = .ok (.bipush 99, 2) := by decide +kernel
theorem dX10_price_37 : decode cX10_price 37 = .ok (.invokestatic 48, 3) := by decide +kernel
theorem dX10_price_40 : decode cX10_price 40 = .ok (.ifCond .ne 5, 3) := by decide +kernel
theorem dX10_price_43 : decode cX10_price 43 = .ok (.iconst (-1), 1) := by decide +kernel
theorem dX10_price_44 : decode cX10_price 44 = .ok (.ireturn, 1) := by decide +kernel
theorem dX10_price_45 : decode cX10_price 45 = .ok (.iload_n 1, 1) := by decide +kernel
theorem dX10_price_46 : decode cX10_price 46 = .ok (.ifCond .ne 10, 3) := by decide +kernel
theorem dX10_price_49 : decode cX10_price 49 = .ok (.aload_n 0, 1) := by decide +kernel
theorem dX10_price_50 : decode cX10_price 50 = .ok (.getfield 35, 3) := by decide +kernel
theorem dX10_price_53 : decode cX10_price 53 = .ok (.goto 19, 3) := by decide +kernel
theorem dX10_price_56 : decode cX10_price 56 = .ok (.iload_n 1, 1) := by decide +kernel
theorem dX10_price_57 : decode cX10_price 57 = .ok (.iconst 1, 1) := by decide +kernel
theorem dX10_price_58 : decode cX10_price 58 = .ok (.if_icmp .ne 10, 3) := by decide +kernel
theorem dX10_price_61 : decode cX10_price 61 = .ok (.aload_n 0, 1) := by decide +kernel
theorem dX10_price_62 : decode cX10_price 62 = .ok (.getfield 39, 3) := by decide +kernel
theorem dX10_price_65 : decode cX10_price 65 = .ok (.goto 7, 3) := by decide +kernel
theorem dX10_price_68 : decode cX10_price 68 = .ok (.aload_n 0, 1) := by decide +kernel
theorem dX10_price_69 : decode cX10_price 69 = .ok (.getfield 42, 3) := by decide +kernel
theorem dX10_price_72 : decode cX10_price 72 = .ok (.istore_n 3, 1) := by decide +kernel
theorem dX10_price_73 : decode cX10_price 73 = .ok (.aload_n 0, 1) := by decide +kernel
theorem dX10_price_74 : decode cX10_price 74 = .ok (.iload_n 1, 1) := by decide +kernel
theorem dX10_price_75 : decode cX10_price 75 = .ok (.ifCond .ne 7, 3) := by decide +kernel
theorem dX10_price_78 : decode cX10_price 78 = .ok (.iload_n 2, 1) := by decide +kernel
theorem dX10_price_79 : decode cX10_price 79 = .ok (.goto 7, 3) := by decide +kernel
theorem dX10_price_82 : decode cX10_price 82 = .ok (.aload_n 0, 1) := by decide +kernel
theorem dX10_price_83 : decode cX10_price 83 = .ok (.getfield 35, 3) := by decide +kernel
theorem dX10_price_86 : decode cX10_price 86 = .ok (.putfield 35, 3) := by decide +kernel
theorem dX10_price_89 : decode cX10_price 89 = .ok (.aload_n 0, 1) := by decide +kernel
theorem dX10_price_90 : decode cX10_price 90 = .ok (.iload_n 1, 1) := by decide +kernel
theorem dX10_price_91 : decode cX10_price 91 = .ok (.iconst 1, 1) := by decide +kernel
theorem dX10_price_92 : decode cX10_price 92 = .ok (.if_icmp .ne 7, 3) := by decide +kernel
theorem dX10_price_95 : decode cX10_price 95 = .ok (.iload_n 2, 1) := by decide +kernel
theorem dX10_price_96 : decode cX10_price 96 = .ok (.goto 7, 3) := by decide +kernel
theorem dX10_price_99 : decode cX10_price 99 = .ok (.aload_n 0, 1) := by decide +kernel
theorem dX10_price_100 : decode cX10_price 100 = .ok (.getfield 39, 3) := by decide +kernel
theorem dX10_price_103 : decode cX10_price 103 = .ok (.putfield 39, 3) := by decide +kernel
theorem dX10_price_106 : decode cX10_price 106 = .ok (.aload_n 0, 1) := by decide +kernel
theorem dX10_price_107 : decode cX10_price 107 = .ok (.iload_n 1, 1) := by decide +kernel
theorem dX10_price_108 : decode cX10_price 108 = .ok (.iconst 2, 1) := by decide +kernel
theorem dX10_price_109 : decode cX10_price 109 = .ok (.if_icmp .ne 7, 3) := by decide +kernel
theorem dX10_price_112 : decode cX10_price 112 = .ok (.iload_n 2, 1) := by decide +kernel
theorem dX10_price_113 : decode cX10_price 113 = .ok (.goto 7, 3) := by decide +kernel
theorem dX10_price_116 : decode cX10_price 116 = .ok (.aload_n 0, 1) := by decide +kernel
theorem dX10_price_117 : decode cX10_price 117 = .ok (.getfield 42, 3) := by decide +kernel
theorem dX10_price_120 : decode cX10_price 120 = .ok (.putfield 42, 3) := by decide +kernel
theorem dX10_price_123 : decode cX10_price 123 = .ok (.iload_n 3, 1) := by decide +kernel
theorem dX10_price_124 : decode cX10_price 124 = .ok (.ireturn, 1) := by decide +kernel
set_option maxRecDepth 20000 in
theorem ggX10_errorOf_X10_persons : GoodIn wsX10_errorOf wsX10_persons := goodIn_r _ [9, 10, 33, 34, 35, 36, 37, 38, 39, 40, 41, 42, 43, 44, 45, 46, 47, 48, 49, 50, 51, 52, 53, 54, 55, 56] (by decide +kernel) (by decide +kernel)
set_option maxRecDepth 20000 in
theorem gX10_errorOf_X10_persons : GoodIn wsX10_errorOf (wsV RX10 67 RX10 yX10_persons wsX10_persons) := goodIn_app (goodIn_of _ (by decide +kernel)) ggX10_errorOf_X10_persons
set_option maxRecDepth 20000 in
theorem ggX10_errorOf_X10_leans : GoodIn wsX10_errorOf wsX10_leans := goodIn_r _ [14, 1, 3, 15, 16, 17, 8, 18, 10, 19, 5, 6, 7, 9, 33, 34, 35, 36, 37, 38, 39, 40, 41, 42, 43, 44, 45, 46, 47, 48, 49, 50, 51, 52, 53, 54, 55, 56] (by decide +kernel) (by decide +kernel)
set_option maxRecDepth 20000 in
theorem gX10_errorOf_X10_leans : GoodIn wsX10_errorOf (wsV RX10 76 RX10 yX10_leans wsX10_leans) := goodIn_app (goodIn_of _ (by decide +kernel)) ggX10_errorOf_X10_leans
set_option maxRecDepth 20000 in
theorem ggX10_errorOf_X10_isSure : GoodIn wsX10_errorOf wsX10_isSure := goodIn_r _ [23, 2, 24, 25, 26, 8, 27, 28, 29, 30, 31, 32, 33, 34, 35, 36, 37, 38, 39, 40, 41, 42, 43, 44, 45, 46, 47, 48, 49, 50, 51, 52, 53, 54, 55, 56] (by decide +kernel) (by decide +kernel)
set_option maxRecDepth 20000 in
theorem gX10_errorOf_X10_isSure : GoodIn wsX10_errorOf (wsV RX10 154 RX10 yX10_isSure wsX10_isSure) := goodIn_app (goodIn_of _ (by decide +kernel)) ggX10_errorOf_X10_isSure
theorem dX10_errorOf_0 : decode cX10_errorOf 0 = .ok (.aload_n 0, 1) := by decide +kernel
theorem dX10_errorOf_1 : decode cX10_errorOf 1 = .ok (.iload_n 1, 1) := by decide +kernel
theorem dX10_errorOf_2 : decode cX10_errorOf 2 = .ok (.sipush 255, 3) := by decide +kernel
theorem dX10_errorOf_5 : decode cX10_errorOf 5 = .ok (.invokevirtual 67, 3) := by decide +kernel
theorem dX10_errorOf_8 : decode cX10_errorOf 8 = .ok (.istore_n 3, 1) := by decide +kernel
theorem dX10_errorOf_9 : decode cX10_errorOf 9 = .ok (.iconst 0, 1) := by decide +kernel
theorem dX10_errorOf_10 : decode cX10_errorOf 10 = .ok (.istore 4, 2) := by decide +kernel
theorem dX10_errorOf_12 : decode cX10_errorOf 12 = .ok (.iload_n 2, 1) := by decide +kernel
theorem dX10_errorOf_13 : decode cX10_errorOf 13 = .ok (.ifCond .ne 57, 3) := by decide +kernel
theorem dX10_errorOf_16 : decode cX10_errorOf 16 = .ok (.aload_n 0, 1) := by decide +kernel
theorem dX10_errorOf_17 : decode cX10_errorOf 17 = .ok (.iload_n 1, 1) := by decide +kernel
theorem dX10_errorOf_18 : decode cX10_errorOf 18 = .ok (.invokevirtual 76, 3) := by decide +kernel
theorem dX10_errorOf_21 : decode cX10_errorOf 21 = .ok (.ifCond .ne 6, 3) := by decide +kernel
theorem dX10_errorOf_24 : decode cX10_errorOf 24 = .ok (.bipush 101, 2) := by decide +kernel
theorem dX10_errorOf_26 : decode cX10_errorOf 26 = .ok (.ireturn, 1) := by decide +kernel
theorem dX10_errorOf_27 : decode cX10_errorOf 27 = .ok (.aload_n 0, 1) := by decide +kernel
theorem dX10_errorOf_28 : decode cX10_errorOf 28 = .ok (.getfield 52, 3) := by decide +kernel
theorem dX10_errorOf_31 : decode cX10_errorOf 31 = .ok (.lconst 0, 1) := by decide +kernel
theorem dX10_errorOf_32 : decode cX10_errorOf 32 = .ok (.lcmp, 1) := by decide +kernel
theorem dX10_errorOf_33 : decode cX10_errorOf 33 = .ok (.ifCond .ge 11, 3) := by decide +kernel
theorem dX10_errorOf_36 : decode cX10_errorOf 36 = .ok (.aload_n 0, 1) := by decide +kernel
theorem dX10_errorOf_37 : decode cX10_errorOf 37 = .ok (.getfield 52, 3) := by decide +kernel
theorem dX10_errorOf_40 : decode cX10_errorOf 40 = .ok (.lneg, 1) := by decide +kernel
theorem dX10_errorOf_41 : decode cX10_errorOf 41 = .ok (.goto 7, 3) := by decide +kernel
theorem dX10_errorOf_44 : decode cX10_errorOf 44 = .ok (.aload_n 0, 1) := by decide +kernel
theorem dX10_errorOf_45 : decode cX10_errorOf 45 = .ok (.getfield 52, 3) := by decide +kernel
theorem dX10_errorOf_48 : decode cX10_errorOf 48 = .ok (.lstore 5, 2) := by decide +kernel
theorem dX10_errorOf_50 : decode cX10_errorOf 50 = .ok (.ldc2_w 152, 3) := by decide +kernel
theorem dX10_errorOf_53 : decode cX10_errorOf 53 = .ok (.lload 5, 2) := by decide +kernel
theorem dX10_errorOf_55 : decode cX10_errorOf 55 = .ok (.lmul, 1) := by decide +kernel
theorem dX10_errorOf_56 : decode cX10_errorOf 56 = .ok (.aload_n 0, 1) := by decide +kernel
theorem dX10_errorOf_57 : decode cX10_errorOf 57 = .ok (.getfield 56, 3) := by decide +kernel
theorem dX10_errorOf_60 : decode cX10_errorOf 60 = .ok (.ladd, 1) := by decide +kernel
theorem dX10_errorOf_61 : decode cX10_errorOf 61 = .ok (.lconst 1, 1) := by decide +kernel
theorem dX10_errorOf_62 : decode cX10_errorOf 62 = .ok (.lsub, 1) := by decide +kernel
theorem dX10_errorOf_63 : decode cX10_errorOf 63 = .ok (.aload_n 0, 1) := by decide +kernel
theorem dX10_errorOf_64 : decode cX10_errorOf 64 = .ok (.getfield 56, 3) := by decide +kernel
theorem dX10_errorOf_67 : decode cX10_errorOf 67 = .ok (.ldiv, 1) := by decide +kernel
theorem dX10_errorOf_68 : decode cX10_errorOf 68 = .ok (.l2i, 1) := by decide +kernel
theorem dX10_errorOf_69 : decode cX10_errorOf 69 = .ok (.ireturn, 1) := by decide +kernel
theorem dX10_errorOf_70 : decode cX10_errorOf 70 = .ok (.aload_n 0, 1) := by decide +kernel
theorem dX10_errorOf_71 : decode cX10_errorOf 71 = .ok (.iload_n 3, 1) := by decide +kernel
theorem dX10_errorOf_72 : decode cX10_errorOf 72 = .ok (.aload_n 0, 1) := by decide +kernel
theorem dX10_errorOf_73 : decode cX10_errorOf 73 = .ok (.iload_n 1, 1) := by decide +kernel
theorem dX10_errorOf_74 : decode cX10_errorOf 74 = .ok (.sipush 170, 3) := by decide +kernel
theorem dX10_errorOf_77 : decode cX10_errorOf 77 = .ok (.invokevirtual 67, 3) := by decide +kernel
theorem dX10_errorOf_80 : decode cX10_errorOf 80 = .ok (.iload_n 2, 1) := by decide +kernel
theorem dX10_errorOf_81 : decode cX10_errorOf 81 = .ok (.iload 4, 2) := by decide +kernel
theorem dX10_errorOf_83 : decode cX10_errorOf 83 = .ok (.aload_n 0, 1) := by decide +kernel
theorem dX10_errorOf_84 : decode cX10_errorOf 84 = .ok (.getfield 42, 3) := by decide +kernel
theorem dX10_errorOf_87 : decode cX10_errorOf 87 = .ok (.invokevirtual 154, 3) := by decide +kernel
theorem dX10_errorOf_90 : decode cX10_errorOf 90 = .ok (.ifCond .ne 9, 3) := by decide +kernel
theorem dX10_errorOf_93 : decode cX10_errorOf 93 = .ok (.iinc 4 1, 3) := by decide +kernel
theorem dX10_errorOf_96 : decode cX10_errorOf 96 = .ok (.goto (-26), 3) := by decide +kernel
theorem dX10_errorOf_99 : decode cX10_errorOf 99 = .ok (.iload 4, 2) := by decide +kernel
theorem dX10_errorOf_101 : decode cX10_errorOf 101 = .ok (.ireturn, 1) := by decide +kernel
set_option maxRecDepth 20000 in
theorem ggX10_error_X10_isLand : GoodIn wsX10_error wsX10_isLand := goodIn_r _ [5, 6, 7, 4, 8] (by decide +kernel) (by decide +kernel)
set_option maxRecDepth 20000 in
theorem gX10_error_X10_isLand : GoodIn wsX10_error (va_wsS RX10 63 yX10_isLand wsX10_isLand) := goodIn_app (goodIn_of _ (by decide +kernel)) ggX10_error_X10_isLand
set_option maxRecDepth 20000 in
theorem ggX10_error_X10_persons : GoodIn wsX10_error wsX10_persons := goodIn_r _ [12, 13, 44, 45, 46, 47, 48, 49, 50, 51, 52, 53, 54, 55, 56, 57, 58, 59, 60, 61, 62, 63, 64, 65, 66, 67] (by decide +kernel) (by decide +kernel)
set_option maxRecDepth 20000 in
theorem gX10_error_X10_persons : GoodIn wsX10_error (wsV RX10 67 RX10 yX10_persons wsX10_persons) := goodIn_app (goodIn_of _ (by decide +kernel)) ggX10_error_X10_persons
set_option maxRecDepth 20000 in
theorem ggX10_error_X10_in : GoodIn wsX10_error wsX10_in := goodIn_r _ [8] (by decide +kernel) (by decide +kernel)
set_option maxRecDepth 20000 in
theorem gX10_error_X10_in : GoodIn wsX10_error (va_wsS RX10 48 yX10_in wsX10_in) := goodIn_app (goodIn_of _ (by decide +kernel)) ggX10_error_X10_in
set_option maxRecDepth 20000 in
theorem ggX10_error_X10_errorOf : GoodIn wsX10_error wsX10_errorOf := goodIn_r _ [17, 18, 19, 20, 21, 9, 10, 11, 4, 12, 13, 22, 23, 24, 25, 26, 27, 28, 29, 30, 31, 32, 33, 34, 35, 36, 37, 38, 39, 40, 41, 42, 43, 44, 45, 46, 47, 48, 49, 50, 51, 52, 53, 54, 55, 56, 57, 58, 59, 60, 61, 62, 63, 64, 65, 66, 67] (by decide +kernel) (by decide +kernel)
set_option maxRecDepth 20000 in
theorem gX10_error_X10_errorOf : GoodIn wsX10_error (wsV RX10 172 RX10 yX10_errorOf wsX10_errorOf) := goodIn_app (goodIn_of _ (by decide +kernel)) ggX10_error_X10_errorOf
theorem dX10_error_0 : decode cX10_error 0 = .ok (.aload_n 0, 1) := by decide +kernel
theorem dX10_error_1 : decode cX10_error 1 = .ok (.iconst 0, 1) := by decide +kernel
theorem dX10_error_2 : decode cX10_error 2 = .ok (.putfield 45, 3) := by decide +kernel
theorem dX10_error_5 : decode cX10_error 5 = .ok (.iload_n 1, 1) := by decide +kernel
theorem dX10_error_6 : decode cX10_error 6 = .ok (.invokestatic 63, 3) := by decide +kernel
theorem dX10_error_9 : decode cX10_error 9 = .ok (.ifCond .eq 19, 3) := by decide +kernel
theorem dX10_error_12 : decode cX10_error 12 = .ok (.iload_n 2, 1) := by decide +kernel
theorem dX10_error_13 : decode cX10_error 13 = .ok (.iconst 0, 1) := by decide +kernel
theorem dX10_error_14 : decode cX10_error 14 = .ok (.aload_n 0, 1) := by decide +kernel
theorem dX10_error_15 : decode cX10_error 15 = .ok (.iload_n 1, 1) := by decide +kernel
theorem dX10_error_16 : decode cX10_error 16 = .ok (.sipush 255, 3) := by decide +kernel
theorem dX10_error_19 : decode cX10_error 19 = .ok (.invokevirtual 67, 3) := by decide +kernel
theorem dX10_error_22 : decode cX10_error 22 = .ok (.invokestatic 48, 3) := by decide +kernel
theorem dX10_error_25 : decode cX10_error 25 = .ok (.ifCond .ne 5, 3) := by decide +kernel
theorem dX10_error_28 : decode cX10_error 28 = .ok (.iconst (-1), 1) := by decide +kernel
theorem dX10_error_29 : decode cX10_error 29 = .ok (.ireturn, 1) := by decide +kernel
theorem dX10_error_30 : decode cX10_error 30 = .ok (.aload_n 0, 1) := by decide +kernel
theorem dX10_error_31 : decode cX10_error 31 = .ok (.iload_n 1, 1) := by decide +kernel
theorem dX10_error_32 : decode cX10_error 32 = .ok (.sipush 255, 3) := by decide +kernel
theorem dX10_error_35 : decode cX10_error 35 = .ok (.invokevirtual 67, 3) := by decide +kernel
theorem dX10_error_38 : decode cX10_error 38 = .ok (.ifCond .ne 8, 3) := by decide +kernel
theorem dX10_error_41 : decode cX10_error 41 = .ok (.bipush (-2), 2) := by decide +kernel
theorem dX10_error_43 : decode cX10_error 43 = .ok (.goto 9, 3) := by decide +kernel
theorem dX10_error_46 : decode cX10_error 46 = .ok (.aload_n 0, 1) := by decide +kernel
theorem dX10_error_47 : decode cX10_error 47 = .ok (.iload_n 1, 1) := by decide +kernel
theorem dX10_error_48 : decode cX10_error 48 = .ok (.iload_n 2, 1) := by decide +kernel
theorem dX10_error_49 : decode cX10_error 49 = .ok (.invokevirtual 172, 3) := by decide +kernel
theorem dX10_error_52 : decode cX10_error 52 = .ok (.ireturn, 1) := by decide +kernel
set_option maxRecDepth 20000 in
theorem ggX10_worst_X10_persons : GoodIn wsX10_worst wsX10_persons := goodIn_r _ [5, 6, 37, 38, 39, 40, 41, 42, 43, 44, 45, 46, 47, 48, 49, 50, 51, 52, 53, 54, 55, 56, 57, 58, 59, 60] (by decide +kernel) (by decide +kernel)
set_option maxRecDepth 20000 in
theorem gX10_worst_X10_persons : GoodIn wsX10_worst (wsV RX10 67 RX10 yX10_persons wsX10_persons) := goodIn_app (goodIn_of _ (by decide +kernel)) ggX10_worst_X10_persons
set_option maxRecDepth 20000 in
theorem ggX10_worst_X10_errorOf : GoodIn wsX10_worst wsX10_errorOf := goodIn_r _ [10, 11, 12, 13, 14, 1, 2, 3, 4, 5, 6, 15, 16, 17, 18, 19, 20, 21, 22, 23, 24, 25, 26, 27, 28, 29, 30, 31, 32, 33, 34, 35, 36, 37, 38, 39, 40, 41, 42, 43, 44, 45, 46, 47, 48, 49, 50, 51, 52, 53, 54, 55, 56, 57, 58, 59, 60] (by decide +kernel) (by decide +kernel)
set_option maxRecDepth 20000 in
theorem gX10_worst_X10_errorOf : GoodIn wsX10_worst (wsV RX10 172 RX10 yX10_errorOf wsX10_errorOf) := goodIn_app (goodIn_of _ (by decide +kernel)) ggX10_worst_X10_errorOf
theorem dX10_worst_0 : decode cX10_worst 0 = .ok (.iconst 0, 1) := by decide +kernel
theorem dX10_worst_1 : decode cX10_worst 1 = .ok (.istore_n 2, 1) := by decide +kernel
theorem dX10_worst_2 : decode cX10_worst 2 = .ok (.iconst 0, 1) := by decide +kernel
theorem dX10_worst_3 : decode cX10_worst 3 = .ok (.istore_n 3, 1) := by decide +kernel
theorem dX10_worst_4 : decode cX10_worst 4 = .ok (.iload_n 3, 1) := by decide +kernel
theorem dX10_worst_5 : decode cX10_worst 5 = .ok (.iconst 4, 1) := by decide +kernel
theorem dX10_worst_6 : decode cX10_worst 6 = .ok (.if_icmp .ge 45, 3) := by decide +kernel
theorem dX10_worst_9 : decode cX10_worst 9 = .ok (.aload_n 0, 1) := by decide +kernel
theorem dX10_worst_10 : decode cX10_worst 10 = .ok (.iload_n 3, 1) := by decide +kernel
theorem dX10_worst_11 : decode cX10_worst 11 = .ok (.sipush 255, 3) := by decide +kernel
theorem dX10_worst_14 : decode cX10_worst 14 = .ok (.invokevirtual 67, 3) := by decide +kernel
theorem dX10_worst_17 : decode cX10_worst 17 = .ok (.ifCond .le 12, 3) := by decide +kernel
theorem dX10_worst_20 : decode cX10_worst 20 = .ok (.aload_n 0, 1) := by decide +kernel
theorem dX10_worst_21 : decode cX10_worst 21 = .ok (.iload_n 3, 1) := by decide +kernel
theorem dX10_worst_22 : decode cX10_worst 22 = .ok (.iload_n 1, 1) := by decide +kernel
theorem dX10_worst_23 : decode cX10_worst 23 = .ok (.invokevirtual 172, 3) := by decide +kernel
theorem dX10_worst_26 : decode cX10_worst 26 = .ok (.goto 4, 3) := by decide +kernel
theorem dX10_worst_29 : decode cX10_worst 29 = .ok (.iconst 0, 1) := by decide +kernel
theorem dX10_worst_30 : decode cX10_worst 30 = .ok (.istore 4, 2) := by decide +kernel
theorem dX10_worst_32 : decode cX10_worst 32 = .ok (.iload 4, 2) := by decide +kernel
theorem dX10_worst_34 : decode cX10_worst 34 = .ok (.iload_n 2, 1) := by decide +kernel
theorem dX10_worst_35 : decode cX10_worst 35 = .ok (.if_icmp .le 8, 3) := by decide +kernel
theorem dX10_worst_38 : decode cX10_worst 38 = .ok (.iload 4, 2) := by decide +kernel
theorem dX10_worst_40 : decode cX10_worst 40 = .ok (.goto 4, 3) := by decide +kernel
theorem dX10_worst_43 : decode cX10_worst 43 = .ok (.iload_n 2, 1) := by decide +kernel
theorem dX10_worst_44 : decode cX10_worst 44 = .ok (.istore_n 2, 1) := by decide +kernel
theorem dX10_worst_45 : decode cX10_worst 45 = .ok (.iinc 3 1, 3) := by decide +kernel
theorem dX10_worst_48 : decode cX10_worst 48 = .ok (.goto (-44), 3) := by decide +kernel
theorem dX10_worst_51 : decode cX10_worst 51 = .ok (.iload_n 2, 1) := by decide +kernel
theorem dX10_worst_52 : decode cX10_worst 52 = .ok (.ireturn, 1) := by decide +kernel
set_option maxRecDepth 20000 in
theorem ggX10_best_X10_in : GoodIn wsX10_best wsX10_in := goodIn_r _ [7] (by decide +kernel) (by decide +kernel)
set_option maxRecDepth 20000 in
theorem gX10_best_X10_in : GoodIn wsX10_best (va_wsS RX10 48 yX10_in wsX10_in) := goodIn_app (goodIn_of _ (by decide +kernel)) ggX10_best_X10_in
set_option maxRecDepth 20000 in
theorem ggX10_best_X10_persons : GoodIn wsX10_best wsX10_persons := goodIn_r _ [11, 12, 47, 48, 49, 50, 51, 52, 53, 54, 55, 56, 57, 58, 59, 60, 61, 62, 63, 64, 65, 66, 67, 68, 69, 70] (by decide +kernel) (by decide +kernel)
set_option maxRecDepth 20000 in
theorem gX10_best_X10_persons : GoodIn wsX10_best (wsV RX10 67 RX10 yX10_persons wsX10_persons) := goodIn_app (goodIn_of _ (by decide +kernel)) ggX10_best_X10_persons
set_option maxRecDepth 20000 in
theorem ggX10_best_X10_worst : GoodIn wsX10_best wsX10_worst := goodIn_r _ [16, 8, 9, 10, 6, 11, 12, 17, 18, 19, 20, 21, 22, 23, 24, 25, 26, 27, 28, 29, 30, 31, 32, 33, 34, 35, 36, 37, 38, 39, 40, 41, 42, 43, 44, 45, 46, 47, 48, 49, 50, 51, 52, 53, 54, 55, 56, 57, 58, 59, 60, 61, 62, 63, 64, 65, 66, 67, 68, 69, 70] (by decide +kernel) (by decide +kernel)
set_option maxRecDepth 20000 in
theorem gX10_best_X10_worst : GoodIn wsX10_best (wsV RX10 175 RX10 yX10_worst wsX10_worst) := goodIn_app (goodIn_of _ (by decide +kernel)) ggX10_best_X10_worst
theorem dX10_best_0 : decode cX10_best 0 = .ok (.aload_n 0, 1) := by decide +kernel
theorem dX10_best_1 : decode cX10_best 1 = .ok (.iconst 0, 1) := by decide +kernel
theorem dX10_best_2 : decode cX10_best 2 = .ok (.putfield 45, 3) := by decide +kernel
theorem dX10_best_5 : decode cX10_best 5 = .ok (.iload_n 1, 1) := by decide +kernel
theorem dX10_best_6 : decode cX10_best 6 = .ok (.iconst 0, 1) := by decide +kernel
theorem dX10_best_7 : decode cX10_best 7 = .ok (.sipush 9999, 3) := by decide +kernel
theorem dX10_best_10 : decode cX10_best 10 = .ok (.invokestatic 48, 3) := by decide +kernel
theorem dX10_best_13 : decode cX10_best 13 = .ok (.ifCond .eq 12, 3) := by decide +kernel
theorem dX10_best_16 : decode cX10_best 16 = .ok (.iload_n 2, 1) := by decide +kernel
theorem dX10_best_17 : decode cX10_best 17 = .ok (.iconst 0, 1) := by decide +kernel
theorem dX10_best_18 : decode cX10_best 18 = .ok (.iconst 1, 1) := by decide +kernel
theorem dX10_best_19 : decode cX10_best 19 = .ok (.invokestatic 48, 3) := by decide +kernel
theorem dX10_best_22 : decode cX10_best 22 = .ok (.ifCond .ne 5, 3) := by decide +kernel
theorem dX10_best_25 : decode cX10_best 25 = .ok (.iconst (-1), 1) := by decide +kernel
theorem dX10_best_26 : decode cX10_best 26 = .ok (.ireturn, 1) := by decide +kernel
theorem dX10_best_27 : decode cX10_best 27 = .ok (.bipush 51, 2) := by decide +kernel
theorem dX10_best_29 : decode cX10_best 29 = .ok (.istore_n 3, 1) := by decide +kernel
theorem dX10_best_30 : decode cX10_best 30 = .ok (.iconst 0, 1) := by decide +kernel
theorem dX10_best_31 : decode cX10_best 31 = .ok (.istore 4, 2) := by decide +kernel
theorem dX10_best_33 : decode cX10_best 33 = .ok (.iconst 0, 1) := by decide +kernel
theorem dX10_best_34 : decode cX10_best 34 = .ok (.istore 5, 2) := by decide +kernel
theorem dX10_best_36 : decode cX10_best 36 = .ok (.iload 5, 2) := by decide +kernel
theorem dX10_best_38 : decode cX10_best 38 = .ok (.iconst 4, 1) := by decide +kernel
theorem dX10_best_39 : decode cX10_best 39 = .ok (.if_icmp .ge 65, 3) := by decide +kernel
theorem dX10_best_42 : decode cX10_best 42 = .ok (.aload_n 0, 1) := by decide +kernel
theorem dX10_best_43 : decode cX10_best 43 = .ok (.iload 5, 2) := by decide +kernel
theorem dX10_best_45 : decode cX10_best 45 = .ok (.sipush 255, 3) := by decide +kernel
theorem dX10_best_48 : decode cX10_best 48 = .ok (.invokevirtual 67, 3) := by decide +kernel
theorem dX10_best_51 : decode cX10_best 51 = .ok (.istore 6, 2) := by decide +kernel
theorem dX10_best_53 : decode cX10_best 53 = .ok (.aload_n 0, 1) := by decide +kernel
theorem dX10_best_54 : decode cX10_best 54 = .ok (.iload 5, 2) := by decide +kernel
theorem dX10_best_56 : decode cX10_best 56 = .ok (.sipush 240, 3) := by decide +kernel
theorem dX10_best_59 : decode cX10_best 59 = .ok (.invokevirtual 67, 3) := by decide +kernel
theorem dX10_best_62 : decode cX10_best 62 = .ok (.istore 7, 2) := by decide +kernel
theorem dX10_best_64 : decode cX10_best 64 = .ok (.iload 6, 2) := by decide +kernel
theorem dX10_best_66 : decode cX10_best 66 = .ok (.ifCond .le 14, 3) := by decide +kernel
theorem dX10_best_69 : decode cX10_best 69 = .ok (.iload 6, 2) := by decide +kernel
theorem dX10_best_71 : decode cX10_best 71 = .ok (.iload_n 3, 1) := by decide +kernel
theorem dX10_best_72 : decode cX10_best 72 = .ok (.if_icmp .ge 8, 3) := by decide +kernel
theorem dX10_best_75 : decode cX10_best 75 = .ok (.iload 6, 2) := by decide +kernel
theorem dX10_best_77 : decode cX10_best 77 = .ok (.goto 4, 3) := by decide +kernel
theorem dX10_best_80 : decode cX10_best 80 = .ok (.iload_n 3, 1) := by decide +kernel
theorem dX10_best_81 : decode cX10_best 81 = .ok (.istore_n 3, 1) := by decide +kernel
theorem dX10_best_82 : decode cX10_best 82 = .ok (.iload 7, 2) := by decide +kernel
theorem dX10_best_84 : decode cX10_best 84 = .ok (.iload 4, 2) := by decide +kernel
theorem dX10_best_86 : decode cX10_best 86 = .ok (.if_icmp .le 8, 3) := by decide +kernel
theorem dX10_best_89 : decode cX10_best 89 = .ok (.iload 7, 2) := by decide +kernel
theorem dX10_best_91 : decode cX10_best 91 = .ok (.goto 5, 3) := by decide +kernel
theorem dX10_best_94 : decode cX10_best 94 = .ok (.iload 4, 2) := by decide +kernel
theorem dX10_best_96 : decode cX10_best 96 = .ok (.istore 4, 2) := by decide +kernel
theorem dX10_best_98 : decode cX10_best 98 = .ok (.iinc 5 1, 3) := by decide +kernel
theorem dX10_best_101 : decode cX10_best 101 = .ok (.goto (-65), 3) := by decide +kernel
theorem dX10_best_104 : decode cX10_best 104 = .ok (.iload_n 3, 1) := by decide +kernel
theorem dX10_best_105 : decode cX10_best 105 = .ok (.bipush 51, 2) := by decide +kernel
theorem dX10_best_107 : decode cX10_best 107 = .ok (.if_icmp .ne 6, 3) := by decide +kernel
theorem dX10_best_110 : decode cX10_best 110 = .ok (.bipush (-2), 2) := by decide +kernel
theorem dX10_best_112 : decode cX10_best 112 = .ok (.ireturn, 1) := by decide +kernel
theorem dX10_best_113 : decode cX10_best 113 = .ok (.bipush (-9), 2) := by decide +kernel
theorem dX10_best_115 : decode cX10_best 115 = .ok (.istore 5, 2) := by decide +kernel
theorem dX10_best_117 : decode cX10_best 117 = .ok (.iconst 0, 1) := by decide +kernel
theorem dX10_best_118 : decode cX10_best 118 = .ok (.istore 6, 2) := by decide +kernel
theorem dX10_best_120 : decode cX10_best 120 = .ok (.iconst 0, 1) := by decide +kernel
theorem dX10_best_121 : decode cX10_best 121 = .ok (.istore 7, 2) := by decide +kernel
theorem dX10_best_123 : decode cX10_best 123 = .ok (.iload 7, 2) := by decide +kernel
theorem dX10_best_125 : decode cX10_best 125 = .ok (.iload_n 3, 1) := by decide +kernel
theorem dX10_best_126 : decode cX10_best 126 = .ok (.if_icmp .gt 69, 3) := by decide +kernel
theorem dX10_best_129 : decode cX10_best 129 = .ok (.iload 7, 2) := by decide +kernel
theorem dX10_best_131 : decode cX10_best 131 = .ok (.ifCond .ne 13, 3) := by decide +kernel
theorem dX10_best_134 : decode cX10_best 134 = .ok (.iload 4, 2) := by decide +kernel
theorem dX10_best_136 : decode cX10_best 136 = .ok (.aload_n 0, 1) := by decide +kernel
theorem dX10_best_137 : decode cX10_best 137 = .ok (.getfield 35, 3) := by decide +kernel
theorem dX10_best_140 : decode cX10_best 140 = .ok (.imul, 1) := by decide +kernel
theorem dX10_best_141 : decode cX10_best 141 = .ok (.goto 10, 3) := by decide +kernel
theorem dX10_best_144 : decode cX10_best 144 = .ok (.iload 7, 2) := by decide +kernel
theorem dX10_best_146 : decode cX10_best 146 = .ok (.aload_n 0, 1) := by decide +kernel
theorem dX10_best_147 : decode cX10_best 147 = .ok (.getfield 39, 3) := by decide +kernel
theorem dX10_best_150 : decode cX10_best 150 = .ok (.imul, 1) := by decide +kernel
theorem dX10_best_151 : decode cX10_best 151 = .ok (.istore 8, 2) := by decide +kernel
theorem dX10_best_153 : decode cX10_best 153 = .ok (.iload 8, 2) := by decide +kernel
theorem dX10_best_155 : decode cX10_best 155 = .ok (.iload_n 1, 1) := by decide +kernel
theorem dX10_best_156 : decode cX10_best 156 = .ok (.if_icmp .gt 33, 3) := by decide +kernel
theorem dX10_best_159 : decode cX10_best 159 = .ok (.aload_n 0, 1) := by decide +kernel
theorem dX10_best_160 : decode cX10_best 160 = .ok (.iload 7, 2) := by decide +kernel
theorem dX10_best_162 : decode cX10_best 162 = .ok (.invokevirtual 175, 3) := by decide +kernel
theorem dX10_best_165 : decode cX10_best 165 = .ok (.istore 9, 2) := by decide +kernel
theorem dX10_best_167 : decode cX10_best 167 = .ok (.iload 5, 2) := by decide +kernel
theorem dX10_best_169 : decode cX10_best 169 = .ok (.bipush (-9), 2) := by decide +kernel
theorem dX10_best_171 : decode cX10_best 171 = .ok (.if_icmp .eq 10, 3) := by decide +kernel
theorem dX10_best_174 : decode cX10_best 174 = .ok (.iload 9, 2) := by decide +kernel
theorem dX10_best_176 : decode cX10_best 176 = .ok (.iload 6, 2) := by decide +kernel
theorem dX10_best_178 : decode cX10_best 178 = .ok (.if_icmp .ge 11, 3) := by decide +kernel
theorem dX10_best_181 : decode cX10_best 181 = .ok (.iload 7, 2) := by decide +kernel
theorem dX10_best_183 : decode cX10_best 183 = .ok (.istore 5, 2) := by decide +kernel
theorem dX10_best_185 : decode cX10_best 185 = .ok (.iload 9, 2) := by decide +kernel
theorem dX10_best_187 : decode cX10_best 187 = .ok (.istore 6, 2) := by decide +kernel
theorem dX10_best_189 : decode cX10_best 189 = .ok (.iinc 7 1, 3) := by decide +kernel
theorem dX10_best_192 : decode cX10_best 192 = .ok (.goto (-69), 3) := by decide +kernel
theorem dX10_best_195 : decode cX10_best 195 = .ok (.iload 5, 2) := by decide +kernel
theorem dX10_best_197 : decode cX10_best 197 = .ok (.bipush (-9), 2) := by decide +kernel
theorem dX10_best_199 : decode cX10_best 199 = .ok (.if_icmp .eq 7, 3) := by decide +kernel
theorem dX10_best_202 : decode cX10_best 202 = .ok (.iload_n 2, 1) := by decide +kernel
theorem dX10_best_203 : decode cX10_best 203 = .ok (.ifCond .ne 8, 3) := by decide +kernel
theorem dX10_best_206 : decode cX10_best 206 = .ok (.iload 5, 2) := by decide +kernel
theorem dX10_best_208 : decode cX10_best 208 = .ok (.goto 5, 3) := by decide +kernel
theorem dX10_best_211 : decode cX10_best 211 = .ok (.iload 6, 2) := by decide +kernel
theorem dX10_best_213 : decode cX10_best 213 = .ok (.ireturn, 1) := by decide +kernel
set_option maxRecDepth 20000 in
theorem ggX10_cost_X10_in : GoodIn wsX10_cost wsX10_in := goodIn_r _ [16] (by decide +kernel) (by decide +kernel)
set_option maxRecDepth 20000 in
theorem gX10_cost_X10_in : GoodIn wsX10_cost (va_wsS RX10 48 yX10_in wsX10_in) := goodIn_app (goodIn_of _ (by decide +kernel)) ggX10_cost_X10_in
set_option maxRecDepth 20000 in
theorem ggX10_cost_X10_isLand : GoodIn wsX10_cost wsX10_isLand := goodIn_r _ [19, 13, 14, 15, 16] (by decide +kernel) (by decide +kernel)
set_option maxRecDepth 20000 in
theorem gX10_cost_X10_isLand : GoodIn wsX10_cost (va_wsS RX10 63 yX10_isLand wsX10_isLand) := goodIn_app (goodIn_of _ (by decide +kernel)) ggX10_cost_X10_isLand
set_option maxRecDepth 20000 in
theorem ggX10_cost_X10_persons : GoodIn wsX10_cost wsX10_persons := goodIn_r _ [23, 24, 25, 26, 27, 28, 29, 30, 31, 32, 33, 34, 35, 36, 37, 38, 39, 40, 41, 42, 43, 44, 45, 46, 47, 48] (by decide +kernel) (by decide +kernel)
set_option maxRecDepth 20000 in
theorem gX10_cost_X10_persons : GoodIn wsX10_cost (wsV RX10 67 RX10 yX10_persons wsX10_persons) := goodIn_app (goodIn_of _ (by decide +kernel)) ggX10_cost_X10_persons
theorem dX10_cost_0 : decode cX10_cost 0 = .ok (.aload_n 0, 1) := by decide +kernel
theorem dX10_cost_1 : decode cX10_cost 1 = .ok (.iconst 0, 1) := by decide +kernel
theorem dX10_cost_2 : decode cX10_cost 2 = .ok (.putfield 45, 3) := by decide +kernel
theorem dX10_cost_5 : decode cX10_cost 5 = .ok (.iload_n 1, 1) := by decide +kernel
theorem dX10_cost_6 : decode cX10_cost 6 = .ok (.iconst 0, 1) := by decide +kernel
theorem dX10_cost_7 : decode cX10_cost 7 = .ok (.bipush 6, 2) := by decide +kernel
theorem dX10_cost_9 : decode cX10_cost 9 = .ok (.invokestatic 48, 3) := by decide +kernel
theorem dX10_cost_12 : decode cX10_cost 12 = .ok (.ifCond .eq 10, 3) := by decide +kernel
theorem dX10_cost_15 : decode cX10_cost 15 = .ok (.iload_n 2, 1) := by decide +kernel
theorem dX10_cost_16 : decode cX10_cost 16 = .ok (.invokestatic 63, 3) := by decide +kernel
theorem dX10_cost_19 : decode cX10_cost 19 = .ok (.ifCond .ne 5, 3) := by decide +kernel
theorem dX10_cost_22 : decode cX10_cost 22 = .ok (.iconst (-1), 1) := by decide +kernel
theorem dX10_cost_23 : decode cX10_cost 23 = .ok (.ireturn, 1) := by decide +kernel
theorem dX10_cost_24 : decode cX10_cost 24 = .ok (.iconst 2, 1) := by decide +kernel
theorem dX10_cost_25 : decode cX10_cost 25 = .ok (.aload_n 0, 1) := by decide +kernel
theorem dX10_cost_26 : decode cX10_cost 26 = .ok (.getfield 35, 3) := by decide +kernel
theorem dX10_cost_29 : decode cX10_cost 29 = .ok (.aload_n 0, 1) := by decide +kernel
theorem dX10_cost_30 : decode cX10_cost 30 = .ok (.iload_n 2, 1) := by decide +kernel
theorem dX10_cost_31 : decode cX10_cost 31 = .ok (.sipush 240, 3) := by decide +kernel
theorem dX10_cost_34 : decode cX10_cost 34 = .ok (.invokevirtual 67, 3) := by decide +kernel
theorem dX10_cost_37 : decode cX10_cost 37 = .ok (.imul, 1) := by decide +kernel
theorem dX10_cost_38 : decode cX10_cost 38 = .ok (.iadd, 1) := by decide +kernel
theorem dX10_cost_39 : decode cX10_cost 39 = .ok (.istore_n 3, 1) := by decide +kernel
theorem dX10_cost_40 : decode cX10_cost 40 = .ok (.iconst 2, 1) := by decide +kernel
theorem dX10_cost_41 : decode cX10_cost 41 = .ok (.aload_n 0, 1) := by decide +kernel
theorem dX10_cost_42 : decode cX10_cost 42 = .ok (.getfield 39, 3) := by decide +kernel
theorem dX10_cost_45 : decode cX10_cost 45 = .ok (.aload_n 0, 1) := by decide +kernel
theorem dX10_cost_46 : decode cX10_cost 46 = .ok (.iload_n 2, 1) := by decide +kernel
theorem dX10_cost_47 : decode cX10_cost 47 = .ok (.sipush 255, 3) := by decide +kernel
theorem dX10_cost_50 : decode cX10_cost 50 = .ok (.invokevirtual 67, 3) := by decide +kernel
theorem dX10_cost_53 : decode cX10_cost 53 = .ok (.imul, 1) := by decide +kernel
theorem dX10_cost_54 : decode cX10_cost 54 = .ok (.iadd, 1) := by decide +kernel
theorem dX10_cost_55 : decode cX10_cost 55 = .ok (.istore 4, 2) := by decide +kernel
theorem dX10_cost_57 : decode cX10_cost 57 = .ok (.aload_n 0, 1) := by decide +kernel
theorem dX10_cost_58 : decode cX10_cost 58 = .ok (.dup, 1) := by decide +kernel
theorem dX10_cost_59 : decode cX10_cost 59 = .ok (.getfield 178, 3) := by decide +kernel
theorem dX10_cost_62 : decode cX10_cost 62 = .ok (.iload_n 1, 1) := by decide +kernel
theorem dX10_cost_63 : decode cX10_cost 63 = .ok (.ifCond .ne 7, 3) := by decide +kernel
theorem dX10_cost_66 : decode cX10_cost 66 = .ok (.lconst 1, 1) := by decide +kernel
theorem dX10_cost_67 : decode cX10_cost 67 = .ok (.goto 61, 3) := by decide +kernel
theorem dX10_cost_70 : decode cX10_cost 70 = .ok (.iload_n 1, 1) := by decide +kernel
theorem dX10_cost_71 : decode cX10_cost 71 = .ok (.iconst 1, 1) := by decide +kernel
theorem dX10_cost_72 : decode cX10_cost 72 = .ok (.if_icmp .ne 9, 3) := by decide +kernel
theorem dX10_cost_75 : decode cX10_cost 75 = .ok (.ldc2_w 181, 3) := by decide +kernel
theorem dX10_cost_78 : decode cX10_cost 78 = .ok (.goto 50, 3) := by decide +kernel
theorem dX10_cost_81 : decode cX10_cost 81 = .ok (.iload_n 1, 1) := by decide +kernel
theorem dX10_cost_82 : decode cX10_cost 82 = .ok (.iconst 2, 1) := by decide +kernel
theorem dX10_cost_83 : decode cX10_cost 83 = .ok (.if_icmp .ne 9, 3) := by decide +kernel
theorem dX10_cost_86 : decode cX10_cost 86 = .ok (.ldc2_w 183, 3) := by decide +kernel
theorem dX10_cost_89 : decode cX10_cost 89 = .ok (.goto 39, 3) := by decide +kernel
theorem dX10_cost_92 : decode cX10_cost 92 = .ok (.iload_n 1, 1) := by decide +kernel
theorem dX10_cost_93 : decode cX10_cost 93 = .ok (.iconst 3, 1) := by decide +kernel
theorem dX10_cost_94 : decode cX10_cost 94 = .ok (.if_icmp .ne 9, 3) := by decide +kernel
theorem dX10_cost_97 : decode cX10_cost 97 = .ok (.ldc2_w 185, 3) := by decide +kernel
theorem dX10_cost_100 : decode cX10_cost 100 = .ok (.goto 28, 3) := by decide +kernel
theorem dX10_cost_103 : decode cX10_cost 103 = .ok (.iload_n 1, 1) := by decide +kernel
theorem dX10_cost_104 : decode cX10_cost 104 = .ok (.iconst 4, 1) := by decide +kernel
theorem dX10_cost_105 : decode cX10_cost 105 = .ok (.if_icmp .ne 9, 3) := by decide +kernel
theorem dX10_cost_108 : decode cX10_cost 108 = .ok (.ldc2_w 187, 3) := by decide +kernel
theorem dX10_cost_111 : decode cX10_cost 111 = .ok (.goto 17, 3) := by decide +kernel
theorem dX10_cost_114 : decode cX10_cost 114 = .ok (.iload_n 1, 1) := by decide +kernel
theorem dX10_cost_115 : decode cX10_cost 115 = .ok (.iconst 5, 1) := by decide +kernel
theorem dX10_cost_116 : decode cX10_cost 116 = .ok (.if_icmp .ne 9, 3) := by decide +kernel
theorem dX10_cost_119 : decode cX10_cost 119 = .ok (.ldc2_w 189, 3) := by decide +kernel
theorem dX10_cost_122 : decode cX10_cost 122 = .ok (.goto 6, 3) := by decide +kernel
theorem dX10_cost_125 : decode cX10_cost 125 = .ok (.ldc2_w 191, 3) := by decide +kernel
theorem dX10_cost_128 : decode cX10_cost 128 = .ok (.ladd, 1) := by decide +kernel
theorem dX10_cost_129 : decode cX10_cost 129 = .ok (.putfield 178, 3) := by decide +kernel
theorem dX10_cost_132 : decode cX10_cost 132 = .ok (.iload_n 1, 1) := by decide +kernel
theorem dX10_cost_133 : decode cX10_cost 133 = .ok (.ifCond .ne 7, 3) := by decide +kernel
theorem dX10_cost_136 : decode cX10_cost 136 = .ok (.iconst 2, 1) := by decide +kernel
theorem dX10_cost_137 : decode cX10_cost 137 = .ok (.goto 71, 3) := by decide +kernel
theorem dX10_cost_140 : decode cX10_cost 140 = .ok (.iload_n 1, 1) := by decide +kernel
theorem dX10_cost_141 : decode cX10_cost 141 = .ok (.iconst 1, 1) := by decide +kernel
theorem dX10_cost_142 : decode cX10_cost 142 = .ok (.if_icmp .ne 7, 3) := by decide +kernel
theorem dX10_cost_145 : decode cX10_cost 145 = .ok (.iload_n 3, 1) := by decide +kernel
theorem dX10_cost_146 : decode cX10_cost 146 = .ok (.goto 62, 3) := by decide +kernel
theorem dX10_cost_149 : decode cX10_cost 149 = .ok (.iload_n 1, 1) := by decide +kernel
theorem dX10_cost_150 : decode cX10_cost 150 = .ok (.iconst 2, 1) := by decide +kernel
theorem dX10_cost_151 : decode cX10_cost 151 = .ok (.if_icmp .ne 12, 3) := by decide +kernel
theorem dX10_cost_154 : decode cX10_cost 154 = .ok (.iconst 2, 1) := by decide +kernel
theorem dX10_cost_155 : decode cX10_cost 155 = .ok (.aload_n 0, 1) := by decide +kernel
theorem dX10_cost_156 : decode cX10_cost 156 = .ok (.getfield 125, 3) := by decide +kernel
theorem dX10_cost_159 : decode cX10_cost 159 = .ok (.iadd, 1) := by decide +kernel
theorem dX10_cost_160 : decode cX10_cost 160 = .ok (.goto 48, 3) := by decide +kernel
theorem dX10_cost_163 : decode cX10_cost 163 = .ok (.iload_n 1, 1) := by decide +kernel
theorem dX10_cost_164 : decode cX10_cost 164 = .ok (.iconst 3, 1) := by decide +kernel
theorem dX10_cost_165 : decode cX10_cost 165 = .ok (.if_icmp .ne 8, 3) := by decide +kernel
theorem dX10_cost_168 : decode cX10_cost 168 = .ok (.iload 4, 2) := by decide +kernel
theorem dX10_cost_170 : decode cX10_cost 170 = .ok (.goto 38, 3) := by decide +kernel
theorem dX10_cost_173 : decode cX10_cost 173 = .ok (.iload_n 1, 1) := by decide +kernel
theorem dX10_cost_174 : decode cX10_cost 174 = .ok (.iconst 4, 1) := by decide +kernel
theorem dX10_cost_175 : decode cX10_cost 175 = .ok (.if_icmp .ne 12, 3) := by decide +kernel
theorem dX10_cost_178 : decode cX10_cost 178 = .ok (.iconst 3, 1) := by decide +kernel
theorem dX10_cost_179 : decode cX10_cost 179 = .ok (.iload 4, 2) := by decide +kernel
theorem dX10_cost_181 : decode cX10_cost 181 = .ok (.imul, 1) := by decide +kernel
theorem dX10_cost_182 : decode cX10_cost 182 = .ok (.iconst 2, 1) := by decide +kernel
theorem dX10_cost_183 : decode cX10_cost 183 = .ok (.idiv, 1) := by decide +kernel
theorem dX10_cost_184 : decode cX10_cost 184 = .ok (.goto 24, 3) := by decide +kernel
theorem dX10_cost_187 : decode cX10_cost 187 = .ok (.iload_n 1, 1) := by decide +kernel
theorem dX10_cost_188 : decode cX10_cost 188 = .ok (.iconst 5, 1) := by decide +kernel
theorem dX10_cost_189 : decode cX10_cost 189 = .ok (.if_icmp .ne 12, 3) := by decide +kernel
theorem dX10_cost_192 : decode cX10_cost 192 = .ok (.iconst 2, 1) := by decide +kernel
theorem dX10_cost_193 : decode cX10_cost 193 = .ok (.aload_n 0, 1) := by decide +kernel
theorem dX10_cost_194 : decode cX10_cost 194 = .ok (.getfield 160, 3) := by decide +kernel
theorem dX10_cost_197 : decode cX10_cost 197 = .ok (.iadd, 1) := by decide +kernel
theorem dX10_cost_198 : decode cX10_cost 198 = .ok (.goto 10, 3) := by decide +kernel
theorem dX10_cost_201 : decode cX10_cost 201 = .ok (.iload_n 3, 1) := by decide +kernel
theorem dX10_cost_202 : decode cX10_cost 202 = .ok (.bipush 9, 2) := by decide +kernel
theorem dX10_cost_204 : decode cX10_cost 204 = .ok (.iadd, 1) := by decide +kernel
theorem dX10_cost_205 : decode cX10_cost 205 = .ok (.bipush 10, 2) := by decide +kernel
theorem dX10_cost_207 : decode cX10_cost 207 = .ok (.idiv, 1) := by decide +kernel
theorem dX10_cost_208 : decode cX10_cost 208 = .ok (.ireturn, 1) := by decide +kernel
set_option maxRecDepth 20000 in
theorem ggX10_everybody_X10_persons : GoodIn wsX10_everybody wsX10_persons := goodIn_r _ [5, 6, 7, 8, 9, 10, 11, 12, 13, 14, 15, 16, 17, 18, 19, 20, 21, 22, 23, 24, 25, 26, 27, 28, 29, 30] (by decide +kernel) (by decide +kernel)
set_option maxRecDepth 20000 in
theorem gX10_everybody_X10_persons : GoodIn wsX10_everybody (wsV RX10 67 RX10 yX10_persons wsX10_persons) := goodIn_app (goodIn_of _ (by decide +kernel)) ggX10_everybody_X10_persons
theorem dX10_everybody_0 : decode cX10_everybody 0 = .ok (.iconst 0, 1) := by decide +kernel
theorem dX10_everybody_1 : decode cX10_everybody 1 = .ok (.istore_n 1, 1) := by decide +kernel
theorem dX10_everybody_2 : decode cX10_everybody 2 = .ok (.iconst 0, 1) := by decide +kernel
theorem dX10_everybody_3 : decode cX10_everybody 3 = .ok (.istore_n 2, 1) := by decide +kernel
theorem dX10_everybody_4 : decode cX10_everybody 4 = .ok (.iload_n 2, 1) := by decide +kernel
theorem dX10_everybody_5 : decode cX10_everybody 5 = .ok (.iconst 4, 1) := by decide +kernel
theorem dX10_everybody_6 : decode cX10_everybody 6 = .ok (.if_icmp .ge 20, 3) := by decide +kernel
theorem dX10_everybody_9 : decode cX10_everybody 9 = .ok (.iload_n 1, 1) := by decide +kernel
theorem dX10_everybody_10 : decode cX10_everybody 10 = .ok (.aload_n 0, 1) := by decide +kernel
theorem dX10_everybody_11 : decode cX10_everybody 11 = .ok (.iload_n 2, 1) := by decide +kernel
theorem dX10_everybody_12 : decode cX10_everybody 12 = .ok (.sipush 255, 3) := by decide +kernel
theorem dX10_everybody_15 : decode cX10_everybody 15 = .ok (.invokevirtual 67, 3) := by decide +kernel
theorem dX10_everybody_18 : decode cX10_everybody 18 = .ok (.iadd, 1) := by decide +kernel
theorem dX10_everybody_19 : decode cX10_everybody 19 = .ok (.istore_n 1, 1) := by decide +kernel
theorem dX10_everybody_20 : decode cX10_everybody 20 = .ok (.iinc 2 1, 3) := by decide +kernel
theorem dX10_everybody_23 : decode cX10_everybody 23 = .ok (.goto (-19), 3) := by decide +kernel
theorem dX10_everybody_26 : decode cX10_everybody 26 = .ok (.iload_n 1, 1) := by decide +kernel
theorem dX10_everybody_27 : decode cX10_everybody 27 = .ok (.ireturn, 1) := by decide +kernel
set_option maxRecDepth 20000 in
theorem ggX10_begin_X10_everybody : GoodIn wsX10_begin wsX10_everybody := goodIn_r _ [9, 10, 11, 12, 8, 13, 2, 14, 15, 16, 17, 18, 19, 20, 21, 22, 23, 24, 25, 26, 27, 28, 29, 30, 31, 32, 33, 34, 35, 36, 37] (by decide +kernel) (by decide +kernel)
set_option maxRecDepth 20000 in
theorem gX10_begin_X10_everybody : GoodIn wsX10_begin (wsV RX10 193 RX10 yX10_everybody wsX10_everybody) := goodIn_app (goodIn_of _ (by decide +kernel)) ggX10_begin_X10_everybody
theorem dX10_begin_0 : decode cX10_begin 0 = .ok (.aload_n 0, 1) := by decide +kernel
theorem dX10_begin_1 : decode cX10_begin 1 = .ok (.iconst 0, 1) := by decide +kernel
theorem dX10_begin_2 : decode cX10_begin 2 = .ok (.putfield 45, 3) := by decide +kernel
theorem dX10_begin_5 : decode cX10_begin 5 = .ok (.aload_n 0, 1) := by decide +kernel
theorem dX10_begin_6 : decode cX10_begin 6 = .ok (.invokevirtual 193, 3) := by decide +kernel
theorem dX10_begin_9 : decode cX10_begin 9 = .ok (.istore_n 1, 1) := by decide +kernel
theorem dX10_begin_10 : decode cX10_begin 10 = .ok (.iconst 0, 1) := by decide +kernel
theorem dX10_begin_11 : decode cX10_begin 11 = .ok (.istore_n 2, 1) := by decide +kernel
theorem dX10_begin_12 : decode cX10_begin 12 = .ok (.iload_n 2, 1) := by decide +kernel
theorem dX10_begin_13 : decode cX10_begin 13 = .ok (.bipush 32, 2) := by decide +kernel
theorem dX10_begin_15 : decode cX10_begin 15 = .ok (.if_icmp .ge 16, 3) := by decide +kernel
theorem dX10_begin_18 : decode cX10_begin 18 = .ok (.aload_n 0, 1) := by decide +kernel
theorem dX10_begin_19 : decode cX10_begin 19 = .ok (.getfield 13, 3) := by decide +kernel
theorem dX10_begin_22 : decode cX10_begin 22 = .ok (.iload_n 2, 1) := by decide +kernel
theorem dX10_begin_23 : decode cX10_begin 23 = .ok (.iconst 0, 1) := by decide +kernel
theorem dX10_begin_24 : decode cX10_begin 24 = .ok (.iastore, 1) := by decide +kernel
theorem dX10_begin_25 : decode cX10_begin 25 = .ok (.iinc 2 1, 3) := by decide +kernel
theorem dX10_begin_28 : decode cX10_begin 28 = .ok (.goto (-16), 3) := by decide +kernel
theorem dX10_begin_31 : decode cX10_begin 31 = .ok (.aload_n 0, 1) := by decide +kernel
theorem dX10_begin_32 : decode cX10_begin 32 = .ok (.iconst 0, 1) := by decide +kernel
theorem dX10_begin_33 : decode cX10_begin 33 = .ok (.putfield 160, 3) := by decide +kernel
theorem dX10_begin_36 : decode cX10_begin 36 = .ok (.aload_n 0, 1) := by decide +kernel
theorem dX10_begin_37 : decode cX10_begin 37 = .ok (.iconst 0, 1) := by decide +kernel
theorem dX10_begin_38 : decode cX10_begin 38 = .ok (.putfield 166, 3) := by decide +kernel
theorem dX10_begin_41 : decode cX10_begin 41 = .ok (.iload_n 1, 1) := by decide +kernel
theorem dX10_begin_42 : decode cX10_begin 42 = .ok (.ireturn, 1) := by decide +kernel
set_option maxRecDepth 20000 in
theorem ggX10_count_X10_everybody : GoodIn wsX10_count wsX10_everybody := goodIn_r _ [10, 11, 12, 13, 9, 14, 15, 16, 17, 18, 19, 20, 21, 22, 23, 24, 25, 26, 27, 28, 29, 30, 31, 32, 33, 34, 35, 36, 37, 38, 39] (by decide +kernel) (by decide +kernel)
set_option maxRecDepth 20000 in
theorem gX10_count_X10_everybody : GoodIn wsX10_count (wsV RX10 193 RX10 yX10_everybody wsX10_everybody) := goodIn_app (goodIn_of _ (by decide +kernel)) ggX10_count_X10_everybody
theorem dX10_count_0 : decode cX10_count 0 = .ok (.aload_n 0, 1) := by decide +kernel
theorem dX10_count_1 : decode cX10_count 1 = .ok (.iconst 0, 1) := by decide +kernel
theorem dX10_count_2 : decode cX10_count 2 = .ok (.putfield 45, 3) := by decide +kernel
theorem dX10_count_5 : decode cX10_count 5 = .ok (.iload_n 1, 1) := by decide +kernel
theorem dX10_count_6 : decode cX10_count 6 = .ok (.ifCond .ne 10, 3) := by decide +kernel
theorem dX10_count_9 : decode cX10_count 9 = .ok (.aload_n 0, 1) := by decide +kernel
theorem dX10_count_10 : decode cX10_count 10 = .ok (.invokevirtual 193, 3) := by decide +kernel
theorem dX10_count_13 : decode cX10_count 13 = .ok (.goto 52, 3) := by decide +kernel
theorem dX10_count_16 : decode cX10_count 16 = .ok (.iload_n 1, 1) := by decide +kernel
theorem dX10_count_17 : decode cX10_count 17 = .ok (.iconst 1, 1) := by decide +kernel
theorem dX10_count_18 : decode cX10_count 18 = .ok (.if_icmp .ne 10, 3) := by decide +kernel
theorem dX10_count_21 : decode cX10_count 21 = .ok (.aload_n 0, 1) := by decide +kernel
theorem dX10_count_22 : decode cX10_count 22 = .ok (.getfield 125, 3) := by decide +kernel
theorem dX10_count_25 : decode cX10_count 25 = .ok (.goto 40, 3) := by decide +kernel
theorem dX10_count_28 : decode cX10_count 28 = .ok (.iload_n 1, 1) := by decide +kernel
theorem dX10_count_29 : decode cX10_count 29 = .ok (.iconst 2, 1) := by decide +kernel
theorem dX10_count_30 : decode cX10_count 30 = .ok (.if_icmp .ne 10, 3) := by decide +kernel
theorem dX10_count_33 : decode cX10_count 33 = .ok (.aload_n 0, 1) := by decide +kernel
theorem dX10_count_34 : decode cX10_count 34 = .ok (.getfield 160, 3) := by decide +kernel
theorem dX10_count_37 : decode cX10_count 37 = .ok (.goto 28, 3) := by decide +kernel
theorem dX10_count_40 : decode cX10_count 40 = .ok (.iload_n 1, 1) := by decide +kernel
theorem dX10_count_41 : decode cX10_count 41 = .ok (.iconst 3, 1) := by decide +kernel
theorem dX10_count_42 : decode cX10_count 42 = .ok (.if_icmp .ne 10, 3) := by decide +kernel
theorem dX10_count_45 : decode cX10_count 45 = .ok (.aload_n 0, 1) := by decide +kernel
theorem dX10_count_46 : decode cX10_count 46 = .ok (.getfield 166, 3) := by decide +kernel
theorem dX10_count_49 : decode cX10_count 49 = .ok (.goto 16, 3) := by decide +kernel
theorem dX10_count_52 : decode cX10_count 52 = .ok (.iload_n 1, 1) := by decide +kernel
theorem dX10_count_53 : decode cX10_count 53 = .ok (.iconst 4, 1) := by decide +kernel
theorem dX10_count_54 : decode cX10_count 54 = .ok (.if_icmp .ne 10, 3) := by decide +kernel
theorem dX10_count_57 : decode cX10_count 57 = .ok (.aload_n 0, 1) := by decide +kernel
theorem dX10_count_58 : decode cX10_count 58 = .ok (.getfield 83, 3) := by decide +kernel
theorem dX10_count_61 : decode cX10_count 61 = .ok (.goto 4, 3) := by decide +kernel
theorem dX10_count_64 : decode cX10_count 64 = .ok (.iconst (-1), 1) := by decide +kernel
theorem dX10_count_65 : decode cX10_count 65 = .ok (.ireturn, 1) := by decide +kernel
theorem dX10_trace_0 : decode cX10_trace 0 = .ok (.aload_n 0, 1) := by decide +kernel
theorem dX10_trace_1 : decode cX10_trace 1 = .ok (.iconst 0, 1) := by decide +kernel
theorem dX10_trace_2 : decode cX10_trace 2 = .ok (.putfield 45, 3) := by decide +kernel
theorem dX10_trace_5 : decode cX10_trace 5 = .ok (.aload_n 0, 1) := by decide +kernel
theorem dX10_trace_6 : decode cX10_trace 6 = .ok (.getfield 178, 3) := by decide +kernel
theorem dX10_trace_9 : decode cX10_trace 9 = .ok (.lreturn, 1) := by decide +kernel
theorem dJ9_abs_0f7a4_0 : decode cJ9_abs_0f7a4 0 = .ok (.iload_n 0, 1) := by decide +kernel
theorem dJ9_abs_0f7a4_1 : decode cJ9_abs_0f7a4 1 = .ok (.ifCond .ge 8, 3) := by decide +kernel
theorem dJ9_abs_0f7a4_4 : decode cJ9_abs_0f7a4 4 = .ok (.iload_n 0, 1) := by decide +kernel
theorem dJ9_abs_0f7a4_5 : decode cJ9_abs_0f7a4 5 = .ok (.ineg, 1) := by decide +kernel
theorem dJ9_abs_0f7a4_6 : decode cJ9_abs_0f7a4 6 = .ok (.goto 4, 3) := by decide +kernel
theorem dJ9_abs_0f7a4_9 : decode cJ9_abs_0f7a4 9 = .ok (.iload_n 0, 1) := by decide +kernel
theorem dJ9_abs_0f7a4_10 : decode cJ9_abs_0f7a4 10 = .ok (.ireturn, 1) := by decide +kernel
theorem dJ9_abs_067f4_0 : decode cJ9_abs_067f4 0 = .ok (.lload_n 0, 1) := by decide +kernel
theorem dJ9_abs_067f4_1 : decode cJ9_abs_067f4 1 = .ok (.lconst 0, 1) := by decide +kernel
theorem dJ9_abs_067f4_2 : decode cJ9_abs_067f4 2 = .ok (.lcmp, 1) := by decide +kernel
theorem dJ9_abs_067f4_3 : decode cJ9_abs_067f4 3 = .ok (.ifCond .ge 8, 3) := by decide +kernel
theorem dJ9_abs_067f4_6 : decode cJ9_abs_067f4 6 = .ok (.lload_n 0, 1) := by decide +kernel
theorem dJ9_abs_067f4_7 : decode cJ9_abs_067f4 7 = .ok (.lneg, 1) := by decide +kernel
theorem dJ9_abs_067f4_8 : decode cJ9_abs_067f4 8 = .ok (.goto 4, 3) := by decide +kernel
theorem dJ9_abs_067f4_11 : decode cJ9_abs_067f4 11 = .ok (.lload_n 0, 1) := by decide +kernel
theorem dJ9_abs_067f4_12 : decode cJ9_abs_067f4 12 = .ok (.lreturn, 1) := by decide +kernel
theorem dJ9_max_7cf53_0 : decode cJ9_max_7cf53 0 = .ok (.iload_n 0, 1) := by decide +kernel
theorem dJ9_max_7cf53_1 : decode cJ9_max_7cf53 1 = .ok (.iload_n 1, 1) := by decide +kernel
theorem dJ9_max_7cf53_2 : decode cJ9_max_7cf53 2 = .ok (.if_icmp .lt 7, 3) := by decide +kernel
theorem dJ9_max_7cf53_5 : decode cJ9_max_7cf53 5 = .ok (.iload_n 0, 1) := by decide +kernel
theorem dJ9_max_7cf53_6 : decode cJ9_max_7cf53 6 = .ok (.goto 4, 3) := by decide +kernel
theorem dJ9_max_7cf53_9 : decode cJ9_max_7cf53 9 = .ok (.iload_n 1, 1) := by decide +kernel
theorem dJ9_max_7cf53_10 : decode cJ9_max_7cf53 10 = .ok (.ireturn, 1) := by decide +kernel
theorem dJ9_min_7cf53_0 : decode cJ9_min_7cf53 0 = .ok (.iload_n 0, 1) := by decide +kernel
theorem dJ9_min_7cf53_1 : decode cJ9_min_7cf53 1 = .ok (.iload_n 1, 1) := by decide +kernel
theorem dJ9_min_7cf53_2 : decode cJ9_min_7cf53 2 = .ok (.if_icmp .gt 7, 3) := by decide +kernel
theorem dJ9_min_7cf53_5 : decode cJ9_min_7cf53 5 = .ok (.iload_n 0, 1) := by decide +kernel
theorem dJ9_min_7cf53_6 : decode cJ9_min_7cf53 6 = .ok (.goto 4, 3) := by decide +kernel
theorem dJ9_min_7cf53_9 : decode cJ9_min_7cf53 9 = .ok (.iload_n 1, 1) := by decide +kernel
theorem dJ9_min_7cf53_10 : decode cJ9_min_7cf53 10 = .ok (.ireturn, 1) := by decide +kernel
set_option maxRecDepth 20000 in
theorem ggJ0_length_8abf5_J0_coder_7d493 : GoodIn wsJ0_length_8abf5 wsJ0_coder_7d493 := goodIn_r _ [6, 7, 8] (by decide +kernel) (by decide +kernel)
set_option maxRecDepth 20000 in
theorem gJ0_length_8abf5_J0_coder_7d493 : GoodIn wsJ0_length_8abf5 (wsV RJ0 335 RJ0 yJ0_coder_7d493 wsJ0_coder_7d493) := goodIn_app (goodIn_of _ (by decide +kernel)) ggJ0_length_8abf5_J0_coder_7d493
theorem dJ0_length_8abf5_0 : decode cJ0_length_8abf5 0 = .ok (.aload_n 0, 1) := by decide +kernel
theorem dJ0_length_8abf5_1 : decode cJ0_length_8abf5 1 = .ok (.getfield 9, 3) := by decide +kernel
theorem dJ0_length_8abf5_4 : decode cJ0_length_8abf5 4 = .ok (.arraylength, 1) := by decide +kernel
theorem dJ0_length_8abf5_5 : decode cJ0_length_8abf5 5 = .ok (.aload_n 0, 1) := by decide +kernel
theorem dJ0_length_8abf5_6 : decode cJ0_length_8abf5 6 = .ok (.invokevirtual 335, 3) := by decide +kernel
theorem dJ0_length_8abf5_9 : decode cJ0_length_8abf5 9 = .ok (.ishr, 1) := by decide +kernel
theorem dJ0_length_8abf5_10 : decode cJ0_length_8abf5 10 = .ok (.ireturn, 1) := by decide +kernel
set_option maxRecDepth 20000 in
theorem ggJ0_charAt_5068e_J0_isLatin1_aae02 : GoodIn wsJ0_charAt_5068e wsJ0_isLatin1_aae02 := goodIn_r _ [6, 7, 8] (by decide +kernel) (by decide +kernel)
set_option maxRecDepth 20000 in
theorem gJ0_charAt_5068e_J0_isLatin1_aae02 : GoodIn wsJ0_charAt_5068e (wsV RJ0 492 RJ0 yJ0_isLatin1_aae02 wsJ0_isLatin1_aae02) := goodIn_app (goodIn_of _ (by decide +kernel)) ggJ0_charAt_5068e_J0_isLatin1_aae02
set_option maxRecDepth 20000 in
theorem ggJ0_charAt_5068e_J1_charAt_3b067 : GoodIn wsJ0_charAt_5068e wsJ1_charAt_3b067 := goodIn_r _ [12, 13, 14, 5, 15, 16, 17, 18, 19, 20] (by decide +kernel) (by decide +kernel)
set_option maxRecDepth 20000 in
theorem gJ0_charAt_5068e_J1_charAt_3b067 : GoodIn wsJ0_charAt_5068e (va_wsS RJ0 495 yJ1_charAt_3b067 wsJ1_charAt_3b067) := goodIn_app (goodIn_of _ (by decide +kernel)) ggJ0_charAt_5068e_J1_charAt_3b067
set_option maxRecDepth 20000 in
theorem ggJ0_charAt_5068e_J2_charAt_3b067 : GoodIn wsJ0_charAt_5068e wsJ2_charAt_3b067 := goodIn_r _ [24, 25, 26, 23, 27, 28, 29, 30, 31, 14, 5, 15, 16, 17, 18, 19, 20, 32, 33, 34, 35, 36, 37] (by decide +kernel) (by decide +kernel)
set_option maxRecDepth 20000 in
theorem gJ0_charAt_5068e_J2_charAt_3b067 : GoodIn wsJ0_charAt_5068e (va_wsS RJ0 498 yJ2_charAt_3b067 wsJ2_charAt_3b067) := goodIn_app (goodIn_of _ (by decide +kernel)) ggJ0_charAt_5068e_J2_charAt_3b067
theorem dJ0_charAt_5068e_0 : decode cJ0_charAt_5068e 0 = .ok (.aload_n 0, 1) := by decide +kernel
theorem dJ0_charAt_5068e_1 : decode cJ0_charAt_5068e 1 = .ok (.invokevirtual 492, 3) := by decide +kernel
theorem dJ0_charAt_5068e_4 : decode cJ0_charAt_5068e 4 = .ok (.ifCond .eq 12, 3) := by decide +kernel
theorem dJ0_charAt_5068e_7 : decode cJ0_charAt_5068e 7 = .ok (.aload_n 0, 1) := by decide +kernel
theorem dJ0_charAt_5068e_8 : decode cJ0_charAt_5068e 8 = .ok (.getfield 9, 3) := by decide +kernel
theorem dJ0_charAt_5068e_11 : decode cJ0_charAt_5068e 11 = .ok (.iload_n 1, 1) := by decide +kernel
theorem dJ0_charAt_5068e_12 : decode cJ0_charAt_5068e 12 = .ok (.invokestatic 495, 3) := by decide +kernel
theorem dJ0_charAt_5068e_15 : decode cJ0_charAt_5068e 15 = .ok (.ireturn, 1) := by decide +kernel
theorem dJ0_charAt_5068e_16 : decode cJ0_charAt_5068e 16 = .ok (.aload_n 0, 1) := by decide +kernel
theorem dJ0_charAt_5068e_17 : decode cJ0_charAt_5068e 17 = .ok (.getfield 9, 3) := by decide +kernel
theorem dJ0_charAt_5068e_20 : decode cJ0_charAt_5068e 20 = .ok (.iload_n 1, 1) := by decide +kernel
theorem dJ0_charAt_5068e_21 : decode cJ0_charAt_5068e 21 = .ok (.invokestatic 498, 3) := by decide +kernel
theorem dJ0_charAt_5068e_24 : decode cJ0_charAt_5068e 24 = .ok (.ireturn, 1) := by decide +kernel
theorem dJ0_coder_7d493_0 : decode cJ0_coder_7d493 0 = .ok (.getstatic 38, 3) := by decide +kernel
theorem dJ0_coder_7d493_3 : decode cJ0_coder_7d493 3 = .ok (.ifCond .eq 10, 3) := by decide +kernel
theorem dJ0_coder_7d493_6 : decode cJ0_coder_7d493 6 = .ok (.aload_n 0, 1) := by decide +kernel
theorem dJ0_coder_7d493_7 : decode cJ0_coder_7d493 7 = .ok (.getfield 15, 3) := by decide +kernel
theorem dJ0_coder_7d493_10 : decode cJ0_coder_7d493 10 = .ok (.goto 4, 3) := by decide +kernel
theorem dJ0_coder_7d493_13 : decode cJ0_coder_7d493 13 = .ok (.iconst 1, 1) := by decide +kernel
theorem dJ0_coder_7d493_14 : decode cJ0_coder_7d493 14 = .ok (.ireturn, 1) := by decide +kernel
theorem dJ0_isLatin1_aae02_0 : decode cJ0_isLatin1_aae02 0 = .ok (.getstatic 38, 3) := by decide +kernel
theorem dJ0_isLatin1_aae02_3 : decode cJ0_isLatin1_aae02 3 = .ok (.ifCond .eq 14, 3) := by decide +kernel
theorem dJ0_isLatin1_aae02_6 : decode cJ0_isLatin1_aae02 6 = .ok (.aload_n 0, 1) := by decide +kernel
theorem dJ0_isLatin1_aae02_7 : decode cJ0_isLatin1_aae02 7 = .ok (.getfield 15, 3) := by decide +kernel
theorem dJ0_isLatin1_aae02_10 : decode cJ0_isLatin1_aae02 10 = .ok (.ifCond .ne 7, 3) := by decide +kernel
theorem dJ0_isLatin1_aae02_13 : decode cJ0_isLatin1_aae02 13 = .ok (.iconst 1, 1) := by decide +kernel
theorem dJ0_isLatin1_aae02_14 : decode cJ0_isLatin1_aae02 14 = .ok (.goto 4, 3) := by decide +kernel
theorem dJ0_isLatin1_aae02_17 : decode cJ0_isLatin1_aae02 17 = .ok (.iconst 0, 1) := by decide +kernel
theorem dJ0_isLatin1_aae02_18 : decode cJ0_isLatin1_aae02 18 = .ok (.ireturn, 1) := by decide +kernel
set_option maxRecDepth 20000 in
theorem ggJ0_checkIndex_df160_J3_checkIndex_8e157 : GoodIn wsJ0_checkIndex_df160 wsJ3_checkIndex_8e157 := goodIn_r _ [5] (by decide +kernel) (by decide +kernel)
set_option maxRecDepth 20000 in
theorem gJ0_checkIndex_df160_J3_checkIndex_8e157 : GoodIn wsJ0_checkIndex_df160 (va_wsS RJ0 1059 yJ3_checkIndex_8e157 wsJ3_checkIndex_8e157) := goodIn_app (goodIn_of _ (by decide +kernel)) ggJ0_checkIndex_df160_J3_checkIndex_8e157
theorem dJ0_checkIndex_df160_0 : decode cJ0_checkIndex_df160 0 = .ok (.iload_n 0, 1) := by decide +kernel
theorem dJ0_checkIndex_df160_1 : decode cJ0_checkIndex_df160 1 = .ok (.iload_n 1, 1) := by decide +kernel
theorem dJ0_checkIndex_df160_2 : decode cJ0_checkIndex_df160 2 = .ok (.getstatic 1053, 3) := by decide +kernel
theorem dJ0_checkIndex_df160_5 : decode cJ0_checkIndex_df160 5 = .ok (.invokestatic 1059, 3) := by decide +kernel
theorem dJ0_checkIndex_df160_8 : decode cJ0_checkIndex_df160 8 = .ok (.pop, 1) := by decide +kernel
theorem dJ0_checkIndex_df160_9 : decode cJ0_checkIndex_df160 9 = .ok (.return_, 1) := by decide +kernel
set_option maxRecDepth 20000 in
theorem ggJ1_charAt_3b067_J0_checkIndex_df160 : GoodIn wsJ1_charAt_3b067 wsJ0_checkIndex_df160 := goodIn_r _ [4, 5, 6, 7, 8, 9] (by decide +kernel) (by decide +kernel)
set_option maxRecDepth 20000 in
theorem gJ1_charAt_3b067_J0_checkIndex_df160 : GoodIn wsJ1_charAt_3b067 (va_wsS RJ1 9 yJ0_checkIndex_df160 wsJ0_checkIndex_df160) := goodIn_app (goodIn_of _ (by decide +kernel)) ggJ1_charAt_3b067_J0_checkIndex_df160
theorem dJ1_charAt_3b067_0 : decode cJ1_charAt_3b067 0 = .ok (.iload_n 1, 1) := by decide +kernel
theorem dJ1_charAt_3b067_1 : decode cJ1_charAt_3b067 1 = .ok (.aload_n 0, 1) := by decide +kernel
theorem dJ1_charAt_3b067_2 : decode cJ1_charAt_3b067 2 = .ok (.arraylength, 1) := by decide +kernel
theorem dJ1_charAt_3b067_3 : decode cJ1_charAt_3b067 3 = .ok (.invokestatic 9, 3) := by decide +kernel
theorem dJ1_charAt_3b067_6 : decode cJ1_charAt_3b067 6 = .ok (.aload_n 0, 1) := by decide +kernel
theorem dJ1_charAt_3b067_7 : decode cJ1_charAt_3b067 7 = .ok (.iload_n 1, 1) := by decide +kernel
theorem dJ1_charAt_3b067_8 : decode cJ1_charAt_3b067 8 = .ok (.baload, 1) := by decide +kernel
theorem dJ1_charAt_3b067_9 : decode cJ1_charAt_3b067 9 = .ok (.sipush 255, 3) := by decide +kernel
theorem dJ1_charAt_3b067_12 : decode cJ1_charAt_3b067 12 = .ok (.iand, 1) := by decide +kernel
theorem dJ1_charAt_3b067_13 : decode cJ1_charAt_3b067 13 = .ok (.i2c, 1) := by decide +kernel
theorem dJ1_charAt_3b067_14 : decode cJ1_charAt_3b067 14 = .ok (.ireturn, 1) := by decide +kernel
set_option maxRecDepth 20000 in
theorem ggJ2_getChar_3b067_J2_length_9d52b : GoodIn wsJ2_getChar_3b067 wsJ2_length_9d52b := goodIn_r _ [7] (by decide +kernel) (by decide +kernel)
set_option maxRecDepth 20000 in
theorem gJ2_getChar_3b067_J2_length_9d52b : GoodIn wsJ2_getChar_3b067 (va_wsS RJ2 48 yJ2_length_9d52b wsJ2_length_9d52b) := goodIn_app (goodIn_of _ (by decide +kernel)) ggJ2_getChar_3b067_J2_length_9d52b
theorem dJ2_getChar_3b067_0 : decode cJ2_getChar_3b067 0 = .ok (.getstatic 44, 3) := by decide +kernel
theorem dJ2_getChar_3b067_3 : decode cJ2_getChar_3b067 3 = .ok (.ifCond .ne 25, 3) := by decide +kernel
theorem dJ2_getChar_3b067_6 : decode cJ2_getChar_3b067 6 = .ok (.iload_n 1, 1) := by decide +kernel
theorem dJ2_getChar_3b067_7 : decode cJ2_getChar_3b067 7 = .ok (.ifCond .lt 11, 3) := by decide +kernel
theorem dJ2_getChar_3b067_10 : decode cJ2_getChar_3b067 10 = .ok (.iload_n 1, 1) := by decide +kernel
theorem dJ2_getChar_3b067_11 : decode cJ2_getChar_3b067 11 = .ok (.aload_n 0, 1) := by decide +kernel
theorem dJ2_getChar_3b067_12 : decode cJ2_getChar_3b067 12 = .ok (.invokestatic 48, 3) := by decide +kernel
theorem dJ2_getChar_3b067_15 : decode cJ2_getChar_3b067 15 = .ok (.if_icmp .lt 13, 3) := by decide +kernel
theorem dJ2_getChar_3b067_18 : decode cJ2_getChar_3b067 18 = .ok (.new 52, 3) := by decide +kernel
theorem dJ2_getChar_3b067_21 : decode cJ2_getChar_3b067 21 = .ok (.dup, 1) := by decide +kernel
theorem dJ2_getChar_3b067_22 : decode cJ2_getChar_3b067 22 = .ok (.ldc 54, 2) := by decide +kernel
theorem dJ2_getChar_3b067_24 : decode cJ2_getChar_3b067 24 = .ok (.invokespecial 56, 3) := by decide +kernel
theorem dJ2_getChar_3b067_27 : decode cJ2_getChar_3b067 27 = .ok (.athrow, 1) := by decide +kernel
theorem dJ2_getChar_3b067_28 : decode cJ2_getChar_3b067 28 = .ok (.iload_n 1, 1) := by decide +kernel
theorem dJ2_getChar_3b067_29 : decode cJ2_getChar_3b067 29 = .ok (.iconst 1, 1) := by decide +kernel
theorem dJ2_getChar_3b067_30 : decode cJ2_getChar_3b067 30 = .ok (.ishl, 1) := by decide +kernel
theorem dJ2_getChar_3b067_31 : decode cJ2_getChar_3b067 31 = .ok (.istore_n 1, 1) := by decide +kernel
theorem dJ2_getChar_3b067_32 : decode cJ2_getChar_3b067 32 = .ok (.aload_n 0, 1) := by decide +kernel
theorem dJ2_getChar_3b067_33 : decode cJ2_getChar_3b067 33 = .ok (.iload_n 1, 1) := by decide +kernel
theorem dJ2_getChar_3b067_34 : decode cJ2_getChar_3b067 34 = .ok (.iinc 1 1, 3) := by decide +kernel
theorem dJ2_getChar_3b067_37 : decode cJ2_getChar_3b067 37 = .ok (.baload, 1) := by decide +kernel
theorem dJ2_getChar_3b067_38 : decode cJ2_getChar_3b067 38 = .ok (.sipush 255, 3) := by decide +kernel
theorem dJ2_getChar_3b067_41 : decode cJ2_getChar_3b067 41 = .ok (.iand, 1) := by decide +kernel
theorem dJ2_getChar_3b067_42 : decode cJ2_getChar_3b067 42 = .ok (.getstatic 59, 3) := by decide +kernel
theorem dJ2_getChar_3b067_45 : decode cJ2_getChar_3b067 45 = .ok (.ishl, 1) := by decide +kernel
theorem dJ2_getChar_3b067_46 : decode cJ2_getChar_3b067 46 = .ok (.aload_n 0, 1) := by decide +kernel
theorem dJ2_getChar_3b067_47 : decode cJ2_getChar_3b067 47 = .ok (.iload_n 1, 1) := by decide +kernel
theorem dJ2_getChar_3b067_48 : decode cJ2_getChar_3b067 48 = .ok (.baload, 1) := by decide +kernel
theorem dJ2_getChar_3b067_49 : decode cJ2_getChar_3b067 49 = .ok (.sipush 255, 3) := by decide +kernel
theorem dJ2_getChar_3b067_52 : decode cJ2_getChar_3b067 52 = .ok (.iand, 1) := by decide +kernel
theorem dJ2_getChar_3b067_53 : decode cJ2_getChar_3b067 53 = .ok (.getstatic 63, 3) := by decide +kernel
theorem dJ2_getChar_3b067_56 : decode cJ2_getChar_3b067 56 = .ok (.ishl, 1) := by decide +kernel
theorem dJ2_getChar_3b067_57 : decode cJ2_getChar_3b067 57 = .ok (.ior, 1) := by decide +kernel
theorem dJ2_getChar_3b067_58 : decode cJ2_getChar_3b067 58 = .ok (.i2c, 1) := by decide +kernel
theorem dJ2_getChar_3b067_59 : decode cJ2_getChar_3b067 59 = .ok (.ireturn, 1) := by decide +kernel
theorem dJ2_length_9d52b_0 : decode cJ2_length_9d52b 0 = .ok (.aload_n 0, 1) := by decide +kernel
theorem dJ2_length_9d52b_1 : decode cJ2_length_9d52b 1 = .ok (.arraylength, 1) := by decide +kernel
theorem dJ2_length_9d52b_2 : decode cJ2_length_9d52b 2 = .ok (.iconst 1, 1) := by decide +kernel
theorem dJ2_length_9d52b_3 : decode cJ2_length_9d52b 3 = .ok (.ishr, 1) := by decide +kernel
theorem dJ2_length_9d52b_4 : decode cJ2_length_9d52b 4 = .ok (.ireturn, 1) := by decide +kernel
set_option maxRecDepth 20000 in
theorem ggJ2_charAt_3b067_J2_checkIndex_2214a : GoodIn wsJ2_charAt_3b067 wsJ2_checkIndex_2214a := goodIn_r _ [4, 5, 6, 3, 7, 8, 9, 10, 11, 12, 13, 14, 15, 16] (by decide +kernel) (by decide +kernel)
set_option maxRecDepth 20000 in
theorem gJ2_charAt_3b067_J2_checkIndex_2214a : GoodIn wsJ2_charAt_3b067 (va_wsS RJ2 67 yJ2_checkIndex_2214a wsJ2_checkIndex_2214a) := goodIn_app (goodIn_of _ (by decide +kernel)) ggJ2_charAt_3b067_J2_checkIndex_2214a
set_option maxRecDepth 20000 in
theorem ggJ2_charAt_3b067_J2_getChar_3b067 : GoodIn wsJ2_charAt_3b067 wsJ2_getChar_3b067 := goodIn_r _ [19, 20, 21, 22, 5, 6, 3, 7] (by decide +kernel) (by decide +kernel)
set_option maxRecDepth 20000 in
theorem gJ2_charAt_3b067_J2_getChar_3b067 : GoodIn wsJ2_charAt_3b067 (va_wsS RJ2 71 yJ2_getChar_3b067 wsJ2_getChar_3b067) := goodIn_app (goodIn_of _ (by decide +kernel)) ggJ2_charAt_3b067_J2_getChar_3b067
theorem dJ2_charAt_3b067_0 : decode cJ2_charAt_3b067 0 = .ok (.iload_n 1, 1) := by decide +kernel
theorem dJ2_charAt_3b067_1 : decode cJ2_charAt_3b067 1 = .ok (.aload_n 0, 1) := by decide +kernel
theorem dJ2_charAt_3b067_2 : decode cJ2_charAt_3b067 2 = .ok (.invokestatic 67, 3) := by decide +kernel
theorem dJ2_charAt_3b067_5 : decode cJ2_charAt_3b067 5 = .ok (.aload_n 0, 1) := by decide +kernel
theorem dJ2_charAt_3b067_6 : decode cJ2_charAt_3b067 6 = .ok (.iload_n 1, 1) := by decide +kernel
theorem dJ2_charAt_3b067_7 : decode cJ2_charAt_3b067 7 = .ok (.invokestatic 71, 3) := by decide +kernel
theorem dJ2_charAt_3b067_10 : decode cJ2_charAt_3b067 10 = .ok (.ireturn, 1) := by decide +kernel
set_option maxRecDepth 20000 in
theorem ggJ2_checkIndex_2214a_J2_length_9d52b : GoodIn wsJ2_checkIndex_2214a wsJ2_length_9d52b := goodIn_r _ [4] (by decide +kernel) (by decide +kernel)
set_option maxRecDepth 20000 in
theorem gJ2_checkIndex_2214a_J2_length_9d52b : GoodIn wsJ2_checkIndex_2214a (va_wsS RJ2 48 yJ2_length_9d52b wsJ2_length_9d52b) := goodIn_app (goodIn_of _ (by decide +kernel)) ggJ2_checkIndex_2214a_J2_length_9d52b
set_option maxRecDepth 20000 in
theorem ggJ2_checkIndex_2214a_J0_checkIndex_df160 : GoodIn wsJ2_checkIndex_2214a wsJ0_checkIndex_df160 := goodIn_r _ [8, 9, 10, 11, 12, 13] (by decide +kernel) (by decide +kernel)
set_option maxRecDepth 20000 in
theorem gJ2_checkIndex_2214a_J0_checkIndex_df160 : GoodIn wsJ2_checkIndex_2214a (va_wsS RJ2 414 yJ0_checkIndex_df160 wsJ0_checkIndex_df160) := goodIn_app (goodIn_of _ (by decide +kernel)) ggJ2_checkIndex_2214a_J0_checkIndex_df160
theorem dJ2_checkIndex_2214a_0 : decode cJ2_checkIndex_2214a 0 = .ok (.iload_n 0, 1) := by decide +kernel
theorem dJ2_checkIndex_2214a_1 : decode cJ2_checkIndex_2214a 1 = .ok (.aload_n 1, 1) := by decide +kernel
theorem dJ2_checkIndex_2214a_2 : decode cJ2_checkIndex_2214a 2 = .ok (.invokestatic 48, 3) := by decide +kernel
theorem dJ2_checkIndex_2214a_5 : decode cJ2_checkIndex_2214a 5 = .ok (.invokestatic 414, 3) := by decide +kernel
theorem dJ2_checkIndex_2214a_8 : decode cJ2_checkIndex_2214a 8 = .ok (.return_, 1) := by decide +kernel
theorem dJ7_fill_d0a16_0 : decode cJ7_fill_d0a16 0 = .ok (.iconst 0, 1) := by decide +kernel
theorem dJ7_fill_d0a16_1 : decode cJ7_fill_d0a16 1 = .ok (.istore_n 3, 1) := by decide +kernel
theorem dJ7_fill_d0a16_2 : decode cJ7_fill_d0a16 2 = .ok (.aload_n 0, 1) := by decide +kernel
theorem dJ7_fill_d0a16_3 : decode cJ7_fill_d0a16 3 = .ok (.arraylength, 1) := by decide +kernel
theorem dJ7_fill_d0a16_4 : decode cJ7_fill_d0a16 4 = .ok (.istore 4, 2) := by decide +kernel
theorem dJ7_fill_d0a16_6 : decode cJ7_fill_d0a16 6 = .ok (.iload_n 3, 1) := by decide +kernel
theorem dJ7_fill_d0a16_7 : decode cJ7_fill_d0a16 7 = .ok (.iload 4, 2) := by decide +kernel
theorem dJ7_fill_d0a16_9 : decode cJ7_fill_d0a16 9 = .ok (.if_icmp .ge 13, 3) := by decide +kernel
theorem dJ7_fill_d0a16_12 : decode cJ7_fill_d0a16 12 = .ok (.aload_n 0, 1) := by decide +kernel
theorem dJ7_fill_d0a16_13 : decode cJ7_fill_d0a16 13 = .ok (.iload_n 3, 1) := by decide +kernel
theorem dJ7_fill_d0a16_14 : decode cJ7_fill_d0a16 14 = .ok (.lload_n 1, 1) := by decide +kernel
theorem dJ7_fill_d0a16_15 : decode cJ7_fill_d0a16 15 = .ok (.lastore, 1) := by decide +kernel
theorem dJ7_fill_d0a16_16 : decode cJ7_fill_d0a16 16 = .ok (.iinc 3 1, 3) := by decide +kernel
theorem dJ7_fill_d0a16_19 : decode cJ7_fill_d0a16 19 = .ok (.goto (-13), 3) := by decide +kernel
theorem dJ7_fill_d0a16_22 : decode cJ7_fill_d0a16 22 = .ok (.return_, 1) := by decide +kernel
theorem dJ7_fill_53178_0 : decode cJ7_fill_53178 0 = .ok (.iconst 0, 1) := by decide +kernel
theorem dJ7_fill_53178_1 : decode cJ7_fill_53178 1 = .ok (.istore_n 2, 1) := by decide +kernel
theorem dJ7_fill_53178_2 : decode cJ7_fill_53178 2 = .ok (.aload_n 0, 1) := by decide +kernel
theorem dJ7_fill_53178_3 : decode cJ7_fill_53178 3 = .ok (.arraylength, 1) := by decide +kernel
theorem dJ7_fill_53178_4 : decode cJ7_fill_53178 4 = .ok (.istore_n 3, 1) := by decide +kernel
theorem dJ7_fill_53178_5 : decode cJ7_fill_53178 5 = .ok (.iload_n 2, 1) := by decide +kernel
theorem dJ7_fill_53178_6 : decode cJ7_fill_53178 6 = .ok (.iload_n 3, 1) := by decide +kernel
theorem dJ7_fill_53178_7 : decode cJ7_fill_53178 7 = .ok (.if_icmp .ge 13, 3) := by decide +kernel
theorem dJ7_fill_53178_10 : decode cJ7_fill_53178 10 = .ok (.aload_n 0, 1) := by decide +kernel
theorem dJ7_fill_53178_11 : decode cJ7_fill_53178 11 = .ok (.iload_n 2, 1) := by decide +kernel
theorem dJ7_fill_53178_12 : decode cJ7_fill_53178 12 = .ok (.iload_n 1, 1) := by decide +kernel
theorem dJ7_fill_53178_13 : decode cJ7_fill_53178 13 = .ok (.iastore, 1) := by decide +kernel
theorem dJ7_fill_53178_14 : decode cJ7_fill_53178 14 = .ok (.iinc 2 1, 3) := by decide +kernel
theorem dJ7_fill_53178_17 : decode cJ7_fill_53178 17 = .ok (.goto (-12), 3) := by decide +kernel
theorem dJ7_fill_53178_20 : decode cJ7_fill_53178 20 = .ok (.return_, 1) := by decide +kernel
theorem dJ3_checkIndex_8e157_0 : decode cJ3_checkIndex_8e157 0 = .ok (.iload_n 0, 1) := by decide +kernel
theorem dJ3_checkIndex_8e157_1 : decode cJ3_checkIndex_8e157 1 = .ok (.ifCond .lt 8, 3) := by decide +kernel
theorem dJ3_checkIndex_8e157_4 : decode cJ3_checkIndex_8e157 4 = .ok (.iload_n 0, 1) := by decide +kernel
theorem dJ3_checkIndex_8e157_5 : decode cJ3_checkIndex_8e157 5 = .ok (.iload_n 1, 1) := by decide +kernel
theorem dJ3_checkIndex_8e157_6 : decode cJ3_checkIndex_8e157 6 = .ok (.if_icmp .lt 10, 3) := by decide +kernel
theorem dJ3_checkIndex_8e157_9 : decode cJ3_checkIndex_8e157 9 = .ok (.aload_n 2, 1) := by decide +kernel
theorem dJ3_checkIndex_8e157_10 : decode cJ3_checkIndex_8e157 10 = .ok (.iload_n 0, 1) := by decide +kernel
theorem dJ3_checkIndex_8e157_11 : decode cJ3_checkIndex_8e157 11 = .ok (.iload_n 1, 1) := by decide +kernel
theorem dJ3_checkIndex_8e157_12 : decode cJ3_checkIndex_8e157 12 = .ok (.invokestatic 95, 3) := by decide +kernel
theorem dJ3_checkIndex_8e157_15 : decode cJ3_checkIndex_8e157 15 = .ok (.athrow, 1) := by decide +kernel
theorem dJ3_checkIndex_8e157_16 : decode cJ3_checkIndex_8e157 16 = .ok (.iload_n 0, 1) := by decide +kernel
theorem dJ3_checkIndex_8e157_17 : decode cJ3_checkIndex_8e157 17 = .ok (.ireturn, 1) := by decide +kernel
