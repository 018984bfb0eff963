set_option maxRecDepth 20000 in
theorem ggX9_best_X4_smallest : GoodIn wsX9_best wsX4_smallest := goodIn_r _ [10, 11, 12, 13, 9, 14, 15, 16, 17, 18, 19, 20, 21, 22, 23, 131, 132] (by decide +kernel) (by decide +kernel)
set_option maxRecDepth 20000 in
theorem gX9_best_X4_smallest : GoodIn wsX9_best (wsV RX9 214 RX4 yX4_smallest wsX4_smallest) := goodIn_app (goodIn_of _ (by decide +kernel)) ggX9_best_X4_smallest
set_option maxRecDepth 20000 in
theorem ggX9_best_X9_isPayable : GoodIn wsX9_best wsX9_isPayable := goodIn_r _ [27, 28, 29, 30, 31, 4, 32, 1, 33, 12, 13, 9, 14, 15, 16, 17, 18, 19, 20, 21, 22, 23, 121, 122, 123, 124, 125, 126, 127, 128, 129, 130, 131, 132] (by decide +kernel) (by decide +kernel)
set_option maxRecDepth 20000 in
theorem gX9_best_X9_isPayable : GoodIn wsX9_best (wsV RX9 217 RX9 yX9_isPayable wsX9_isPayable) := goodIn_app (goodIn_of _ (by decide +kernel)) ggX9_best_X9_isPayable
set_option maxRecDepth 20000 in
theorem ggX9_best_X9_greatestMistake : GoodIn wsX9_best wsX9_greatestMistake := goodIn_r _ [37, 1, 38, 39, 40, 41, 33, 12, 13, 9, 14, 15, 16, 17, 18, 19, 20, 21, 22, 23, 42, 43, 44, 4, 45, 46, 28, 47, 48, 49, 50, 51, 52, 53, 54, 55, 56, 57, 58, 59, 60, 61, 62, 63, 64, 65, 66, 67, 68, 69, 70, 71, 72, 73, 74, 75, 3, 5, 76, 77, 78, 79, 80, 81, 82, 83, 84, 85, 86, 87, 88, 89, 90, 91, 92, 93, 94, 95, 96, 97, 98, 99, 100, 101, 102, 103, 104, 105, 106, 107, 108, 109, 110, 111, 112, 113, 114, 115, 116, 117, 118, 119, 120, 121, 122, 123, 124, 125, 126, 127, 128, 129, 130, 131, 132, 133, 134, 135, 136] (by decide +kernel) (by decide +kernel)
set_option maxRecDepth 20000 in
theorem gX9_best_X9_greatestMistake : GoodIn wsX9_best (wsV RX9 220 RX9 yX9_greatestMistake wsX9_greatestMistake) := goodIn_app (goodIn_of _ (by decide +kernel)) ggX9_best_X9_greatestMistake
theorem dX9_best_0 : decode cX9_best 0 = .ok (.iload_n 1, 1) := by decide +kernel
theorem dX9_best_1 : decode cX9_best 1 = .ok (.iconst 0, 1) := by decide +kernel
theorem dX9_best_2 : decode cX9_best 2 = .ok (.sipush 9999, 3) := by decide +kernel
theorem dX9_best_5 : decode cX9_best 5 = .ok (.invokestatic 80, 3) := by decide +kernel
theorem dX9_best_8 : decode cX9_best 8 = .ok (.ifCond .eq 12, 3) := by decide +kernel
theorem dX9_best_11 : decode cX9_best 11 = .ok (.iload_n 2, 1) := by decide +kernel
theorem dX9_best_12 : decode cX9_best 12 = .ok (.iconst 0, 1) := by decide +kernel
theorem dX9_best_13 : decode cX9_best 13 = .ok (.iconst 1, 1) := by decide +kernel
theorem dX9_best_14 : decode cX9_best 14 = .ok (.invokestatic 80, 3) := by decide +kernel
theorem dX9_best_17 : decode cX9_best 17 = .ok (.ifCond .ne 5, 3) := by decide +kernel
theorem dX9_best_20 : decode cX9_best 20 = .ok (.iconst (-1), 1) := by decide +kernel
theorem dX9_best_21 : decode cX9_best 21 = .ok (.ireturn, 1) := by decide +kernel
theorem dX9_best_22 : decode cX9_best 22 = .ok (.aload_n 0, 1) := by decide +kernel
theorem dX9_best_23 : decode cX9_best 23 = .ok (.getfield 10, 3) := by decide +kernel
theorem dX9_best_26 : decode cX9_best 26 = .ok (.invokevirtual 214, 3) := by decide +kernel
theorem dX9_best_29 : decode cX9_best 29 = .ok (.istore_n 3, 1) := by decide +kernel
theorem dX9_best_30 : decode cX9_best 30 = .ok (.iload_n 3, 1) := by decide +kernel
theorem dX9_best_31 : decode cX9_best 31 = .ok (.ifCond .ne 6, 3) := by decide +kernel
theorem dX9_best_34 : decode cX9_best 34 = .ok (.bipush (-2), 2) := by decide +kernel
theorem dX9_best_36 : decode cX9_best 36 = .ok (.ireturn, 1) := by decide +kernel
theorem dX9_best_37 : decode cX9_best 37 = .ok (.bipush (-9), 2) := by decide +kernel
theorem dX9_best_39 : decode cX9_best 39 = .ok (.istore 4, 2) := by decide +kernel
theorem dX9_best_41 : decode cX9_best 41 = .ok (.bipush (-9), 2) := by decide +kernel
theorem dX9_best_43 : decode cX9_best 43 = .ok (.istore 5, 2) := by decide +kernel
theorem dX9_best_45 : decode cX9_best 45 = .ok (.iconst 0, 1) := by decide +kernel
theorem dX9_best_46 : decode cX9_best 46 = .ok (.istore 6, 2) := by decide +kernel
theorem dX9_best_48 : decode cX9_best 48 = .ok (.iload 6, 2) := by decide +kernel
theorem dX9_best_50 : decode cX9_best 50 = .ok (.iload_n 3, 1) := by decide +kernel
theorem dX9_best_51 : decode cX9_best 51 = .ok (.if_icmp .gt 61, 3) := by decide +kernel
theorem dX9_best_54 : decode cX9_best 54 = .ok (.aload_n 0, 1) := by decide +kernel
theorem dX9_best_55 : decode cX9_best 55 = .ok (.iload 6, 2) := by decide +kernel
theorem dX9_best_57 : decode cX9_best 57 = .ok (.iload_n 1, 1) := by decide +kernel
theorem dX9_best_58 : decode cX9_best 58 = .ok (.invokevirtual 217, 3) := by decide +kernel
theorem dX9_best_61 : decode cX9_best 61 = .ok (.ifCond .eq 12, 3) := by decide +kernel
theorem dX9_best_64 : decode cX9_best 64 = .ok (.aload_n 0, 1) := by decide +kernel
theorem dX9_best_65 : decode cX9_best 65 = .ok (.iload 6, 2) := by decide +kernel
theorem dX9_best_67 : decode cX9_best 67 = .ok (.invokevirtual 220, 3) := by decide +kernel
theorem dX9_best_70 : decode cX9_best 70 = .ok (.goto 5, 3) := by decide +kernel
theorem dX9_best_73 : decode cX9_best 73 = .ok (.bipush (-9), 2) := by decide +kernel
theorem dX9_best_75 : decode cX9_best 75 = .ok (.istore 7, 2) := by decide +kernel
theorem dX9_best_77 : decode cX9_best 77 = .ok (.iload 7, 2) := by decide +kernel
theorem dX9_best_79 : decode cX9_best 79 = .ok (.bipush (-9), 2) := by decide +kernel
theorem dX9_best_81 : decode cX9_best 81 = .ok (.if_icmp .eq 25, 3) := by decide +kernel
theorem dX9_best_84 : decode cX9_best 84 = .ok (.iload 4, 2) := by decide +kernel
theorem dX9_best_86 : decode cX9_best 86 = .ok (.bipush (-9), 2) := by decide +kernel
theorem dX9_best_88 : decode cX9_best 88 = .ok (.if_icmp .eq 10, 3) := by decide +kernel
theorem dX9_best_91 : decode cX9_best 91 = .ok (.iload 7, 2) := by decide +kernel
theorem dX9_best_93 : decode cX9_best 93 = .ok (.iload 5, 2) := by decide +kernel
theorem dX9_best_95 : decode cX9_best 95 = .ok (.if_icmp .ge 11, 3) := by decide +kernel
theorem dX9_best_98 : decode cX9_best 98 = .ok (.iload 6, 2) := by decide +kernel
theorem dX9_best_100 : decode cX9_best 100 = .ok (.istore 4, 2) := by decide +kernel
theorem dX9_best_102 : decode cX9_best 102 = .ok (.iload 7, 2) := by decide +kernel
theorem dX9_best_104 : decode cX9_best 104 = .ok (.istore 5, 2) := by decide +kernel
theorem dX9_best_106 : decode cX9_best 106 = .ok (.iinc 6 1, 3) := by decide +kernel
theorem dX9_best_109 : decode cX9_best 109 = .ok (.goto (-61), 3) := by decide +kernel
theorem dX9_best_112 : decode cX9_best 112 = .ok (.iload_n 2, 1) := by decide +kernel
theorem dX9_best_113 : decode cX9_best 113 = .ok (.ifCond .ne 8, 3) := by decide +kernel
theorem dX9_best_116 : decode cX9_best 116 = .ok (.iload 4, 2) := by decide +kernel
theorem dX9_best_118 : decode cX9_best 118 = .ok (.goto 5, 3) := by decide +kernel
theorem dX9_best_121 : decode cX9_best 121 = .ok (.iload 5, 2) := by decide +kernel
theorem dX9_best_123 : decode cX9_best 123 = .ok (.ireturn, 1) := by decide +kernel
set_option maxRecDepth 20000 in
theorem ggX9_cost_X9_isLand : GoodIn wsX9_cost wsX9_isLand := goodIn_r _ [4, 5, 6, 3, 7] (by decide +kernel) (by decide +kernel)
set_option maxRecDepth 20000 in
theorem gX9_cost_X9_isLand : GoodIn wsX9_cost (va_wsS RX9 73 yX9_isLand wsX9_isLand) := goodIn_app (goodIn_of _ (by decide +kernel)) ggX9_cost_X9_isLand
set_option maxRecDepth 20000 in
theorem ggX9_cost_X9_askingCost : GoodIn wsX9_cost wsX9_askingCost := goodIn_r _ [11, 12, 65, 66, 67, 68, 69, 70, 71, 72, 73, 74] (by decide +kernel) (by decide +kernel)
set_option maxRecDepth 20000 in
theorem gX9_cost_X9_askingCost : GoodIn wsX9_cost (wsV RX9 223 RX9 yX9_askingCost wsX9_askingCost) := goodIn_app (goodIn_of _ (by decide +kernel)) ggX9_cost_X9_askingCost
set_option maxRecDepth 20000 in
theorem ggX9_cost_X9_postedCost : GoodIn wsX9_cost wsX9_postedCost := goodIn_r _ [16, 12, 17, 8, 9, 10, 3, 11, 18, 19, 20, 21, 22, 23, 24, 25, 26, 27, 28, 29, 30, 31, 32, 33, 34, 35, 36, 37, 65, 66, 67, 68, 69, 70, 71, 72, 73, 74, 75, 76] (by decide +kernel) (by decide +kernel)
set_option maxRecDepth 20000 in
theorem gX9_cost_X9_postedCost : GoodIn wsX9_cost (wsV RX9 226 RX9 yX9_postedCost wsX9_postedCost) := goodIn_app (goodIn_of _ (by decide +kernel)) ggX9_cost_X9_postedCost
set_option maxRecDepth 20000 in
theorem ggX9_cost_X9_quotaCost : GoodIn wsX9_cost wsX9_quotaCost := goodIn_r _ [41, 12, 42, 43, 8, 9, 10, 3, 11, 65, 66, 67, 68, 69, 70, 71, 72, 73, 74, 77, 78, 79, 80, 81] (by decide +kernel) (by decide +kernel)
set_option maxRecDepth 20000 in
theorem gX9_cost_X9_quotaCost : GoodIn wsX9_cost (wsV RX9 229 RX9 yX9_quotaCost wsX9_quotaCost) := goodIn_app (goodIn_of _ (by decide +kernel)) ggX9_cost_X9_quotaCost
set_option maxRecDepth 20000 in
theorem ggX9_cost_X9_lotCost : GoodIn wsX9_cost wsX9_lotCost := goodIn_r _ [47, 12, 48, 22, 23, 8, 9, 10, 3, 11, 24, 25, 26, 27, 28, 29, 30, 31, 32, 33, 34, 35, 36, 37, 65, 66, 67, 68, 69, 70, 71, 72, 73, 74, 75, 76] (by decide +kernel) (by decide +kernel)
set_option maxRecDepth 20000 in
theorem gX9_cost_X9_lotCost : GoodIn wsX9_cost (wsV RX9 232 RX9 yX9_lotCost wsX9_lotCost) := goodIn_app (goodIn_of _ (by decide +kernel)) ggX9_cost_X9_lotCost
set_option maxRecDepth 20000 in
theorem ggX9_cost_X9_calledCost : GoodIn wsX9_cost wsX9_calledCost := goodIn_r _ [52, 12, 53, 44, 45, 46, 3, 47, 48, 22, 23, 8, 9, 10, 11, 24, 25, 26, 27, 28, 29, 30, 31, 32, 33, 34, 35, 36, 37, 65, 66, 67, 68, 69, 70, 71, 72, 73, 74, 75, 76] (by decide +kernel) (by decide +kernel)
set_option maxRecDepth 20000 in
theorem gX9_cost_X9_calledCost : GoodIn wsX9_cost (wsV RX9 235 RX9 yX9_calledCost wsX9_calledCost) := goodIn_app (goodIn_of _ (by decide +kernel)) ggX9_cost_X9_calledCost
set_option maxRecDepth 20000 in
theorem ggX9_cost_X9_lateCost : GoodIn wsX9_cost wsX9_lateCost := goodIn_r _ [57, 12, 58, 59, 8, 9, 10, 3, 11, 65, 66, 67, 68, 69, 70, 71, 72, 73, 74, 82, 83] (by decide +kernel) (by decide +kernel)
set_option maxRecDepth 20000 in
theorem gX9_cost_X9_lateCost : GoodIn wsX9_cost (wsV RX9 238 RX9 yX9_lateCost wsX9_lateCost) := goodIn_app (goodIn_of _ (by decide +kernel)) ggX9_cost_X9_lateCost
set_option maxRecDepth 20000 in
theorem ggX9_cost_X9_shadowCost : GoodIn wsX9_cost wsX9_shadowCost := goodIn_r _ [63, 12, 64, 13, 14, 15, 3, 16, 17, 8, 9, 10, 11, 18, 19, 20, 21, 22, 23, 24, 25, 26, 27, 28, 29, 30, 31, 32, 33, 34, 35, 36, 37, 65, 66, 67, 68, 69, 70, 71, 72, 73, 74, 75, 76] (by decide +kernel) (by decide +kernel)
set_option maxRecDepth 20000 in
theorem gX9_cost_X9_shadowCost : GoodIn wsX9_cost (wsV RX9 241 RX9 yX9_shadowCost wsX9_shadowCost) := goodIn_app (goodIn_of _ (by decide +kernel)) ggX9_cost_X9_shadowCost
theorem dX9_cost_0 : decode cX9_cost 0 = .ok (.iload_n 2, 1) := by decide +kernel
theorem dX9_cost_1 : decode cX9_cost 1 = .ok (.invokestatic 73, 3) := by decide +kernel
theorem dX9_cost_4 : decode cX9_cost 4 = .ok (.ifCond .ne 5, 3) := by decide +kernel
theorem dX9_cost_7 : decode cX9_cost 7 = .ok (.iconst (-1), 1) := by decide +kernel
theorem dX9_cost_8 : decode cX9_cost 8 = .ok (.ireturn, 1) := by decide +kernel
theorem dX9_cost_9 : decode cX9_cost 9 = .ok (.iload_n 1, 1) := by decide +kernel
theorem dX9_cost_10 : decode cX9_cost 10 = .ok (.tableswitch 81 0 6 #[42, 47, 53, 58, 64, 70, 75], 42) := by decide +kernel
theorem dX9_cost_52 : decode cX9_cost 52 = .ok (.aload_n 0, 1) := by decide +kernel
theorem dX9_cost_53 : decode cX9_cost 53 = .ok (.invokevirtual 223, 3) := by decide +kernel
theorem dX9_cost_56 : decode cX9_cost 56 = .ok (.ireturn, 1) := by decide +kernel
theorem dX9_cost_57 : decode cX9_cost 57 = .ok (.aload_n 0, 1) := by decide +kernel
theorem dX9_cost_58 : decode cX9_cost 58 = .ok (.iload_n 2, 1) := by decide +kernel
theorem dX9_cost_59 : decode cX9_cost 59 = .ok (.invokevirtual 226, 3) := by decide +kernel
theorem dX9_cost_62 : decode cX9_cost 62 = .ok (.ireturn, 1) := by decide +kernel
theorem dX9_cost_63 : decode cX9_cost 63 = .ok (.aload_n 0, 1) := by decide +kernel
theorem dX9_cost_64 : decode cX9_cost 64 = .ok (.invokevirtual 229, 3) := by decide +kernel
theorem dX9_cost_67 : decode cX9_cost 67 = .ok (.ireturn, 1) := by decide +kernel
theorem dX9_cost_68 : decode cX9_cost 68 = .ok (.aload_n 0, 1) := by decide +kernel
theorem dX9_cost_69 : decode cX9_cost 69 = .ok (.iload_n 2, 1) := by decide +kernel
theorem dX9_cost_70 : decode cX9_cost 70 = .ok (.invokevirtual 232, 3) := by decide +kernel
theorem dX9_cost_73 : decode cX9_cost 73 = .ok (.ireturn, 1) := by decide +kernel
theorem dX9_cost_74 : decode cX9_cost 74 = .ok (.aload_n 0, 1) := by decide +kernel
theorem dX9_cost_75 : decode cX9_cost 75 = .ok (.iload_n 2, 1) := by decide +kernel
theorem dX9_cost_76 : decode cX9_cost 76 = .ok (.invokevirtual 235, 3) := by decide +kernel
theorem dX9_cost_79 : decode cX9_cost 79 = .ok (.ireturn, 1) := by decide +kernel
theorem dX9_cost_80 : decode cX9_cost 80 = .ok (.aload_n 0, 1) := by decide +kernel
theorem dX9_cost_81 : decode cX9_cost 81 = .ok (.invokevirtual 238, 3) := by decide +kernel
theorem dX9_cost_84 : decode cX9_cost 84 = .ok (.ireturn, 1) := by decide +kernel
theorem dX9_cost_85 : decode cX9_cost 85 = .ok (.aload_n 0, 1) := by decide +kernel
theorem dX9_cost_86 : decode cX9_cost 86 = .ok (.iload_n 2, 1) := by decide +kernel
theorem dX9_cost_87 : decode cX9_cost 87 = .ok (.invokevirtual 241, 3) := by decide +kernel
theorem dX9_cost_90 : decode cX9_cost 90 = .ok (.ireturn, 1) := by decide +kernel
theorem dX9_cost_91 : decode cX9_cost 91 = .ok (.iconst (-1), 1) := by decide +kernel
theorem dX9_cost_92 : decode cX9_cost 92 = .ok (.ireturn, 1) := by decide +kernel
set_option maxRecDepth 20000 in
theorem ggX9_begin_X4_everybody : GoodIn wsX9_begin wsX4_everybody := goodIn_r _ [8, 9, 10, 11, 7, 12, 13, 14, 15, 16, 17, 18, 19, 20, 21, 52, 53] (by decide +kernel) (by decide +kernel)
set_option maxRecDepth 20000 in
theorem gX9_begin_X4_everybody : GoodIn wsX9_begin (wsV RX9 244 RX4 yX4_everybody wsX4_everybody) := goodIn_app (goodIn_of _ (by decide +kernel)) ggX9_begin_X4_everybody
set_option maxRecDepth 20000 in
theorem ggX9_begin_X4_empty : GoodIn wsX9_begin wsX4_empty := goodIn_r _ [25, 21, 26, 27, 28, 29, 52, 53] (by decide +kernel) (by decide +kernel)
set_option maxRecDepth 20000 in
theorem gX9_begin_X4_empty : GoodIn wsX9_begin (wsV RX9 247 RX4 yX4_empty wsX4_empty) := goodIn_app (goodIn_of _ (by decide +kernel)) ggX9_begin_X4_empty
set_option maxRecDepth 20000 in
theorem ggX9_begin_X8_empty : GoodIn wsX9_begin wsX8_empty := goodIn_r _ [34, 35, 54, 55] (by decide +kernel) (by decide +kernel)
set_option maxRecDepth 20000 in
theorem gX9_begin_X8_empty : GoodIn wsX9_begin (wsV RX9 249 RX8 yX8_empty wsX8_empty) := goodIn_app (goodIn_of _ (by decide +kernel)) ggX9_begin_X8_empty
set_option maxRecDepth 20000 in
theorem ggX9_begin_X3_empty : GoodIn wsX9_begin wsX3_empty := goodIn_r _ [40, 41, 56, 57] (by decide +kernel) (by decide +kernel)
set_option maxRecDepth 20000 in
theorem gX9_begin_X3_empty : GoodIn wsX9_begin (wsV RX9 250 RX3 yX3_empty wsX3_empty) := goodIn_app (goodIn_of _ (by decide +kernel)) ggX9_begin_X3_empty
theorem dX9_begin_0 : decode cX9_begin 0 = .ok (.aload_n 0, 1) := by decide +kernel
theorem dX9_begin_1 : decode cX9_begin 1 = .ok (.getfield 10, 3) := by decide +kernel
theorem dX9_begin_4 : decode cX9_begin 4 = .ok (.invokevirtual 244, 3) := by decide +kernel
theorem dX9_begin_7 : decode cX9_begin 7 = .ok (.istore_n 1, 1) := by decide +kernel
theorem dX9_begin_8 : decode cX9_begin 8 = .ok (.aload_n 0, 1) := by decide +kernel
theorem dX9_begin_9 : decode cX9_begin 9 = .ok (.getfield 10, 3) := by decide +kernel
theorem dX9_begin_12 : decode cX9_begin 12 = .ok (.invokevirtual 247, 3) := by decide +kernel
theorem dX9_begin_15 : decode cX9_begin 15 = .ok (.aload_n 0, 1) := by decide +kernel
theorem dX9_begin_16 : decode cX9_begin 16 = .ok (.getfield 47, 3) := by decide +kernel
theorem dX9_begin_19 : decode cX9_begin 19 = .ok (.invokevirtual 249, 3) := by decide +kernel
theorem dX9_begin_22 : decode cX9_begin 22 = .ok (.aload_n 0, 1) := by decide +kernel
theorem dX9_begin_23 : decode cX9_begin 23 = .ok (.getfield 54, 3) := by decide +kernel
theorem dX9_begin_26 : decode cX9_begin 26 = .ok (.invokevirtual 250, 3) := by decide +kernel
theorem dX9_begin_29 : decode cX9_begin 29 = .ok (.iload_n 1, 1) := by decide +kernel
theorem dX9_begin_30 : decode cX9_begin 30 = .ok (.ireturn, 1) := by decide +kernel
set_option maxRecDepth 20000 in
theorem ggX9_count_X4_everybody : GoodIn wsX9_count wsX4_everybody := goodIn_r _ [10, 11, 12, 13, 9, 14, 15, 16, 17, 18, 19, 20, 21, 22, 23, 49, 50] (by decide +kernel) (by decide +kernel)
set_option maxRecDepth 20000 in
theorem gX9_count_X4_everybody : GoodIn wsX9_count (wsV RX9 244 RX4 yX4_everybody wsX4_everybody) := goodIn_app (goodIn_of _ (by decide +kernel)) ggX9_count_X4_everybody
theorem dX9_count_0 : decode cX9_count 0 = .ok (.iload_n 1, 1) := by decide +kernel
theorem dX9_count_1 : decode cX9_count 1 = .ok (.tableswitch 75 0 4 #[35, 43, 51, 59, 67], 35) := by decide +kernel
theorem dX9_count_36 : decode cX9_count 36 = .ok (.aload_n 0, 1) := by decide +kernel
theorem dX9_count_37 : decode cX9_count 37 = .ok (.getfield 10, 3) := by decide +kernel
theorem dX9_count_40 : decode cX9_count 40 = .ok (.invokevirtual 244, 3) := by decide +kernel
theorem dX9_count_43 : decode cX9_count 43 = .ok (.ireturn, 1) := by decide +kernel
theorem dX9_count_44 : decode cX9_count 44 = .ok (.aload_n 0, 1) := by decide +kernel
theorem dX9_count_45 : decode cX9_count 45 = .ok (.getfield 26, 3) := by decide +kernel
theorem dX9_count_48 : decode cX9_count 48 = .ok (.getfield 251, 3) := by decide +kernel
theorem dX9_count_51 : decode cX9_count 51 = .ok (.ireturn, 1) := by decide +kernel
theorem dX9_count_52 : decode cX9_count 52 = .ok (.aload_n 0, 1) := by decide +kernel
theorem dX9_count_53 : decode cX9_count 53 = .ok (.getfield 47, 3) := by decide +kernel
theorem dX9_count_56 : decode cX9_count 56 = .ok (.getfield 255, 3) := by decide +kernel
theorem dX9_count_59 : decode cX9_count 59 = .ok (.ireturn, 1) := by decide +kernel
theorem dX9_count_60 : decode cX9_count 60 = .ok (.aload_n 0, 1) := by decide +kernel
theorem dX9_count_61 : decode cX9_count 61 = .ok (.getfield 54, 3) := by decide +kernel
theorem dX9_count_64 : decode cX9_count 64 = .ok (.getfield 258, 3) := by decide +kernel
theorem dX9_count_67 : decode cX9_count 67 = .ok (.ireturn, 1) := by decide +kernel
theorem dX9_count_68 : decode cX9_count 68 = .ok (.aload_n 0, 1) := by decide +kernel
theorem dX9_count_69 : decode cX9_count 69 = .ok (.getfield 19, 3) := by decide +kernel
theorem dX9_count_72 : decode cX9_count 72 = .ok (.getfield 261, 3) := by decide +kernel
theorem dX9_count_75 : decode cX9_count 75 = .ok (.ireturn, 1) := by decide +kernel
theorem dX9_count_76 : decode cX9_count 76 = .ok (.iconst (-1), 1) := by decide +kernel
theorem dX9_count_77 : decode cX9_count 77 = .ok (.ireturn, 1) := by decide +kernel
theorem dX9_trace_0 : decode cX9_trace 0 = .ok (.aload_n 0, 1) := by decide +kernel
theorem dX9_trace_1 : decode cX9_trace 1 = .ok (.getfield 69, 3) := by decide +kernel
theorem dX9_trace_4 : decode cX9_trace 4 = .ok (.lreturn, 1) := by decide +kernel
theorem dX9_within_0 : decode cX9_within 0 = .ok (.iload_n 0, 1) := by decide +kernel
theorem dX9_within_1 : decode cX9_within 1 = .ok (.iload_n 1, 1) := by decide +kernel
theorem dX9_within_2 : decode cX9_within 2 = .ok (.if_icmp .lt 12, 3) := by decide +kernel
theorem dX9_within_5 : decode cX9_within 5 = .ok (.iload_n 0, 1) := by decide +kernel
theorem dX9_within_6 : decode cX9_within 6 = .ok (.iload_n 2, 1) := by decide +kernel
theorem dX9_within_7 : decode cX9_within 7 = .ok (.if_icmp .gt 7, 3) := by decide +kernel
theorem dX9_within_10 : decode cX9_within 10 = .ok (.iconst 1, 1) := by decide +kernel
theorem dX9_within_11 : decode cX9_within 11 = .ok (.goto 4, 3) := by decide +kernel
theorem dX9_within_14 : decode cX9_within 14 = .ok (.iconst 0, 1) := by decide +kernel
theorem dX9_within_15 : decode cX9_within 15 = .ok (.ireturn, 1) := by decide +kernel
set_option maxRecDepth 20000 in
theorem ggX9_isLand_X9_within : GoodIn wsX9_isLand wsX9_within := goodIn_r _ [4] (by decide +kernel) (by decide +kernel)
set_option maxRecDepth 20000 in
theorem gX9_isLand_X9_within : GoodIn wsX9_isLand (va_wsS RX9 80 yX9_within wsX9_within) := goodIn_app (goodIn_of _ (by decide +kernel)) ggX9_isLand_X9_within
theorem dX9_isLand_0 : decode cX9_isLand 0 = .ok (.iload_n 0, 1) := by decide +kernel
theorem dX9_isLand_1 : decode cX9_isLand 1 = .ok (.iconst 0, 1) := by decide +kernel
theorem dX9_isLand_2 : decode cX9_isLand 2 = .ok (.iconst 3, 1) := by decide +kernel
theorem dX9_isLand_3 : decode cX9_isLand 3 = .ok (.invokestatic 80, 3) := by decide +kernel
theorem dX9_isLand_6 : decode cX9_isLand 6 = .ok (.ireturn, 1) := by decide +kernel
set_option maxRecDepth 20000 in
theorem ggX9_isGroup_X9_within : GoodIn wsX9_isGroup wsX9_within := goodIn_r _ [4] (by decide +kernel) (by decide +kernel)
set_option maxRecDepth 20000 in
theorem gX9_isGroup_X9_within : GoodIn wsX9_isGroup (va_wsS RX9 80 yX9_within wsX9_within) := goodIn_app (goodIn_of _ (by decide +kernel)) ggX9_isGroup_X9_within
theorem dX9_isGroup_0 : decode cX9_isGroup 0 = .ok (.iload_n 0, 1) := by decide +kernel
theorem dX9_isGroup_1 : decode cX9_isGroup 1 = .ok (.iconst 0, 1) := by decide +kernel
theorem dX9_isGroup_2 : decode cX9_isGroup 2 = .ok (.bipush 7, 2) := by decide +kernel
theorem dX9_isGroup_4 : decode cX9_isGroup 4 = .ok (.invokestatic 80, 3) := by decide +kernel
theorem dX9_isGroup_7 : decode cX9_isGroup 7 = .ok (.ireturn, 1) := by decide +kernel
set_option maxRecDepth 20000 in
theorem ggX9_isAsking_X9_isLand : GoodIn wsX9_isAsking wsX9_isLand := goodIn_r _ [4, 5, 6, 3, 7] (by decide +kernel) (by decide +kernel)
set_option maxRecDepth 20000 in
theorem gX9_isAsking_X9_isLand : GoodIn wsX9_isAsking (va_wsS RX9 73 yX9_isLand wsX9_isLand) := goodIn_app (goodIn_of _ (by decide +kernel)) ggX9_isAsking_X9_isLand
set_option maxRecDepth 20000 in
theorem ggX9_isAsking_X9_within : GoodIn wsX9_isAsking wsX9_within := goodIn_r _ [7] (by decide +kernel) (by decide +kernel)
set_option maxRecDepth 20000 in
theorem gX9_isAsking_X9_within : GoodIn wsX9_isAsking (va_wsS RX9 80 yX9_within wsX9_within) := goodIn_app (goodIn_of _ (by decide +kernel)) ggX9_isAsking_X9_within
theorem dX9_isAsking_0 : decode cX9_isAsking 0 = .ok (.iload_n 0, 1) := by decide +kernel
theorem dX9_isAsking_1 : decode cX9_isAsking 1 = .ok (.invokestatic 73, 3) := by decide +kernel
theorem dX9_isAsking_4 : decode cX9_isAsking 4 = .ok (.ifCond .eq 27, 3) := by decide +kernel
theorem dX9_isAsking_7 : decode cX9_isAsking 7 = .ok (.iload_n 1, 1) := by decide +kernel
theorem dX9_isAsking_8 : decode cX9_isAsking 8 = .ok (.iconst 0, 1) := by decide +kernel
theorem dX9_isAsking_9 : decode cX9_isAsking 9 = .ok (.bipush 50, 2) := by decide +kernel
theorem dX9_isAsking_11 : decode cX9_isAsking 11 = .ok (.invokestatic 80, 3) := by decide +kernel
theorem dX9_isAsking_14 : decode cX9_isAsking 14 = .ok (.ifCond .eq 17, 3) := by decide +kernel
theorem dX9_isAsking_17 : decode cX9_isAsking 17 = .ok (.iload_n 2, 1) := by decide +kernel
theorem dX9_isAsking_18 : decode cX9_isAsking 18 = .ok (.iconst 0, 1) := by decide +kernel
theorem dX9_isAsking_19 : decode cX9_isAsking 19 = .ok (.bipush 50, 2) := by decide +kernel
theorem dX9_isAsking_21 : decode cX9_isAsking 21 = .ok (.invokestatic 80, 3) := by decide +kernel
theorem dX9_isAsking_24 : decode cX9_isAsking 24 = .ok (.ifCond .eq 7, 3) := by decide +kernel
theorem dX9_isAsking_27 : decode cX9_isAsking 27 = .ok (.iconst 1, 1) := by decide +kernel
theorem dX9_isAsking_28 : decode cX9_isAsking 28 = .ok (.goto 4, 3) := by decide +kernel
theorem dX9_isAsking_31 : decode cX9_isAsking 31 = .ok (.iconst 0, 1) := by decide +kernel
theorem dX9_isAsking_32 : decode cX9_isAsking 32 = .ok (.ireturn, 1) := by decide +kernel
set_option maxRecDepth 20000 in
theorem ggX9_isLot_X9_within : GoodIn wsX9_isLot wsX9_within := goodIn_r _ [4] (by decide +kernel) (by decide +kernel)
set_option maxRecDepth 20000 in
theorem gX9_isLot_X9_within : GoodIn wsX9_isLot (va_wsS RX9 80 yX9_within wsX9_within) := goodIn_app (goodIn_of _ (by decide +kernel)) ggX9_isLot_X9_within
theorem dX9_isLot_0 : decode cX9_isLot 0 = .ok (.iload_n 0, 1) := by decide +kernel
theorem dX9_isLot_1 : decode cX9_isLot 1 = .ok (.iconst 1, 1) := by decide +kernel
theorem dX9_isLot_2 : decode cX9_isLot 2 = .ok (.bipush 50, 2) := by decide +kernel
theorem dX9_isLot_4 : decode cX9_isLot 4 = .ok (.invokestatic 80, 3) := by decide +kernel
theorem dX9_isLot_7 : decode cX9_isLot 7 = .ok (.ifCond .eq 16, 3) := by decide +kernel
theorem dX9_isLot_10 : decode cX9_isLot 10 = .ok (.iload_n 1, 1) := by decide +kernel
theorem dX9_isLot_11 : decode cX9_isLot 11 = .ok (.iconst 0, 1) := by decide +kernel
theorem dX9_isLot_12 : decode cX9_isLot 12 = .ok (.iload_n 0, 1) := by decide +kernel
theorem dX9_isLot_13 : decode cX9_isLot 13 = .ok (.invokestatic 80, 3) := by decide +kernel
theorem dX9_isLot_16 : decode cX9_isLot 16 = .ok (.ifCond .eq 7, 3) := by decide +kernel
theorem dX9_isLot_19 : decode cX9_isLot 19 = .ok (.iconst 1, 1) := by decide +kernel
theorem dX9_isLot_20 : decode cX9_isLot 20 = .ok (.goto 4, 3) := by decide +kernel
theorem dX9_isLot_23 : decode cX9_isLot 23 = .ok (.iconst 0, 1) := by decide +kernel
theorem dX9_isLot_24 : decode cX9_isLot 24 = .ok (.ireturn, 1) := by decide +kernel
set_option maxRecDepth 20000 in
theorem ggX9_shareBack_X4_back : GoodIn wsX9_shareBack wsX4_back := goodIn_r _ [7, 8, 9, 10, 11, 6, 12, 13, 38, 39] (by decide +kernel) (by decide +kernel)
set_option maxRecDepth 20000 in
theorem gX9_shareBack_X4_back : GoodIn wsX9_shareBack (wsV RX9 100 RX4 yX4_back wsX4_back) := goodIn_app (goodIn_of _ (by decide +kernel)) ggX9_shareBack_X4_back
set_option maxRecDepth 20000 in
theorem ggX9_shareBack_X1_become : GoodIn wsX9_shareBack wsX1_become := goodIn_r _ [18, 19, 20, 21, 22, 23, 24, 25, 26, 17, 27, 40, 41] (by decide +kernel) (by decide +kernel)
set_option maxRecDepth 20000 in
theorem gX9_shareBack_X1_become : GoodIn wsX9_shareBack (wsV RX9 264 RX1 yX1_become wsX1_become) := goodIn_app (goodIn_of _ (by decide +kernel)) ggX9_shareBack_X1_become
theorem dX9_shareBack_0 : decode cX9_shareBack 0 = .ok (.aload_n 0, 1) := by decide +kernel
theorem dX9_shareBack_1 : decode cX9_shareBack 1 = .ok (.getfield 61, 3) := by decide +kernel
theorem dX9_shareBack_4 : decode cX9_shareBack 4 = .ok (.aload_n 0, 1) := by decide +kernel
theorem dX9_shareBack_5 : decode cX9_shareBack 5 = .ok (.getfield 10, 3) := by decide +kernel
theorem dX9_shareBack_8 : decode cX9_shareBack 8 = .ok (.iload_n 1, 1) := by decide +kernel
theorem dX9_shareBack_9 : decode cX9_shareBack 9 = .ok (.iconst 1, 1) := by decide +kernel
theorem dX9_shareBack_10 : decode cX9_shareBack 10 = .ok (.invokevirtual 100, 3) := by decide +kernel
theorem dX9_shareBack_13 : decode cX9_shareBack 13 = .ok (.i2l, 1) := by decide +kernel
theorem dX9_shareBack_14 : decode cX9_shareBack 14 = .ok (.aload_n 0, 1) := by decide +kernel
theorem dX9_shareBack_15 : decode cX9_shareBack 15 = .ok (.getfield 10, 3) := by decide +kernel
theorem dX9_shareBack_18 : decode cX9_shareBack 18 = .ok (.iload_n 1, 1) := by decide +kernel
theorem dX9_shareBack_19 : decode cX9_shareBack 19 = .ok (.iconst 0, 1) := by decide +kernel
theorem dX9_shareBack_20 : decode cX9_shareBack 20 = .ok (.invokevirtual 100, 3) := by decide +kernel
theorem dX9_shareBack_23 : decode cX9_shareBack 23 = .ok (.i2l, 1) := by decide +kernel
theorem dX9_shareBack_24 : decode cX9_shareBack 24 = .ok (.invokevirtual 264, 3) := by decide +kernel
theorem dX9_shareBack_27 : decode cX9_shareBack 27 = .ok (.return_, 1) := by decide +kernel
set_option maxRecDepth 20000 in
theorem ggX9_lean_X9_shareBack : GoodIn wsX9_lean wsX9_shareBack := goodIn_r _ [7, 1, 2, 8, 9, 10, 11, 12, 13, 14, 15, 16, 17, 18, 19, 20, 21, 22, 23, 24, 25, 26, 27, 28, 29, 30, 31, 32, 46, 47, 48, 49, 50, 51, 52, 53, 54, 55, 56, 57, 58, 59] (by decide +kernel) (by decide +kernel)
set_option maxRecDepth 20000 in
theorem gX9_lean_X9_shareBack : GoodIn wsX9_lean (wsV RX9 103 RX9 yX9_shareBack wsX9_shareBack) := goodIn_app (goodIn_of _ (by decide +kernel)) ggX9_lean_X9_shareBack
set_option maxRecDepth 20000 in
theorem ggX9_lean_X4_having : GoodIn wsX9_lean wsX4_having := goodIn_r _ [36, 37, 38, 39, 11, 40, 14, 15, 16, 17, 18, 56, 57] (by decide +kernel) (by decide +kernel)
set_option maxRecDepth 20000 in
theorem gX9_lean_X4_having : GoodIn wsX9_lean (wsV RX9 95 RX4 yX4_having wsX4_having) := goodIn_app (goodIn_of _ (by decide +kernel)) ggX9_lean_X4_having
set_option maxRecDepth 20000 in
theorem ggX9_lean_X1_add : GoodIn wsX9_lean wsX1_add := goodIn_r _ [44, 28, 29, 45, 20, 21, 22, 23, 24, 25, 26, 27, 30, 31, 32, 58, 59] (by decide +kernel) (by decide +kernel)
set_option maxRecDepth 20000 in
theorem gX9_lean_X1_add : GoodIn wsX9_lean (wsV RX9 268 RX1 yX1_add wsX1_add) := goodIn_app (goodIn_of _ (by decide +kernel)) ggX9_lean_X1_add
theorem dX9_lean_0 : decode cX9_lean 0 = .ok (.aload_n 0, 1) := by decide +kernel
theorem dX9_lean_1 : decode cX9_lean 1 = .ok (.iload_n 1, 1) := by decide +kernel
theorem dX9_lean_2 : decode cX9_lean 2 = .ok (.invokevirtual 103, 3) := by decide +kernel
theorem dX9_lean_5 : decode cX9_lean 5 = .ok (.aload_n 0, 1) := by decide +kernel
theorem dX9_lean_6 : decode cX9_lean 6 = .ok (.getfield 61, 3) := by decide +kernel
theorem dX9_lean_9 : decode cX9_lean 9 = .ok (.aload_n 0, 1) := by decide +kernel
theorem dX9_lean_10 : decode cX9_lean 10 = .ok (.getfield 10, 3) := by decide +kernel
theorem dX9_lean_13 : decode cX9_lean 13 = .ok (.iload_n 1, 1) := by decide +kernel
theorem dX9_lean_14 : decode cX9_lean 14 = .ok (.iconst 1, 1) := by decide +kernel
theorem dX9_lean_15 : decode cX9_lean 15 = .ok (.invokevirtual 95, 3) := by decide +kernel
theorem dX9_lean_18 : decode cX9_lean 18 = .ok (.ineg, 1) := by decide +kernel
theorem dX9_lean_19 : decode cX9_lean 19 = .ok (.i2l, 1) := by decide +kernel
theorem dX9_lean_20 : decode cX9_lean 20 = .ok (.aload_n 0, 1) := by decide +kernel
theorem dX9_lean_21 : decode cX9_lean 21 = .ok (.getfield 10, 3) := by decide +kernel
theorem dX9_lean_24 : decode cX9_lean 24 = .ok (.iload_n 1, 1) := by decide +kernel
theorem dX9_lean_25 : decode cX9_lean 25 = .ok (.iconst 0, 1) := by decide +kernel
theorem dX9_lean_26 : decode cX9_lean 26 = .ok (.invokevirtual 95, 3) := by decide +kernel
theorem dX9_lean_29 : decode cX9_lean 29 = .ok (.i2l, 1) := by decide +kernel
theorem dX9_lean_30 : decode cX9_lean 30 = .ok (.invokevirtual 268, 3) := by decide +kernel
theorem dX9_lean_33 : decode cX9_lean 33 = .ok (.return_, 1) := by decide +kernel
set_option maxRecDepth 20000 in
theorem ggX9_weigh_X4_having : GoodIn wsX9_weigh wsX4_having := goodIn_r _ [7, 8, 9, 10, 6, 11, 12, 13, 14, 15, 16, 59, 60] (by decide +kernel) (by decide +kernel)
set_option maxRecDepth 20000 in
theorem gX9_weigh_X4_having : GoodIn wsX9_weigh (wsV RX9 95 RX4 yX4_having wsX4_having) := goodIn_app (goodIn_of _ (by decide +kernel)) ggX9_weigh_X4_having
set_option maxRecDepth 20000 in
theorem ggX9_weigh_X1_become : GoodIn wsX9_weigh wsX1_become := goodIn_r _ [21, 22, 23, 24, 25, 26, 27, 28, 29, 20, 30, 61, 62] (by decide +kernel) (by decide +kernel)
set_option maxRecDepth 20000 in
theorem gX9_weigh_X1_become : GoodIn wsX9_weigh (wsV RX9 264 RX1 yX1_become wsX1_become) := goodIn_app (goodIn_of _ (by decide +kernel)) ggX9_weigh_X1_become
set_option maxRecDepth 20000 in
theorem ggX9_weigh_X9_weighMeans : GoodIn wsX9_weigh wsX9_weighMeans := goodIn_r _ [35, 2, 36, 1, 37, 9, 10, 6, 11, 12, 13, 14, 15, 16, 38, 39, 40, 41, 42, 43, 3, 4, 5, 7, 8, 44, 45, 46, 20, 47, 26, 27, 48, 18, 19, 21, 22, 23, 24, 25, 28, 29, 30, 49, 50, 51, 52, 53, 54, 55, 56, 57, 58, 59, 60, 63, 64, 65, 61, 62] (by decide +kernel) (by decide +kernel)
set_option maxRecDepth 20000 in
theorem gX9_weigh_X9_weighMeans : GoodIn wsX9_weigh (wsV RX9 271 RX9 yX9_weighMeans wsX9_weighMeans) := goodIn_app (goodIn_of _ (by decide +kernel)) ggX9_weigh_X9_weighMeans
theorem dX9_weigh_0 : decode cX9_weigh 0 = .ok (.aload_n 0, 1) := by decide +kernel
theorem dX9_weigh_1 : decode cX9_weigh 1 = .ok (.getfield 61, 3) := by decide +kernel
theorem dX9_weigh_4 : decode cX9_weigh 4 = .ok (.lconst 0, 1) := by decide +kernel
theorem dX9_weigh_5 : decode cX9_weigh 5 = .ok (.aload_n 0, 1) := by decide +kernel
theorem dX9_weigh_6 : decode cX9_weigh 6 = .ok (.getfield 10, 3) := by decide +kernel
theorem dX9_weigh_9 : decode cX9_weigh 9 = .ok (.iload_n 1, 1) := by decide +kernel
theorem dX9_weigh_10 : decode cX9_weigh 10 = .ok (.iconst 0, 1) := by decide +kernel
theorem dX9_weigh_11 : decode cX9_weigh 11 = .ok (.invokevirtual 95, 3) := by decide +kernel
theorem dX9_weigh_14 : decode cX9_weigh 14 = .ok (.i2l, 1) := by decide +kernel
theorem dX9_weigh_15 : decode cX9_weigh 15 = .ok (.invokevirtual 264, 3) := by decide +kernel
theorem dX9_weigh_18 : decode cX9_weigh 18 = .ok (.aload_n 0, 1) := by decide +kernel
theorem dX9_weigh_19 : decode cX9_weigh 19 = .ok (.iload_n 1, 1) := by decide +kernel
theorem dX9_weigh_20 : decode cX9_weigh 20 = .ok (.iconst 0, 1) := by decide +kernel
theorem dX9_weigh_21 : decode cX9_weigh 21 = .ok (.invokevirtual 271, 3) := by decide +kernel
theorem dX9_weigh_24 : decode cX9_weigh 24 = .ok (.aload_n 0, 1) := by decide +kernel
theorem dX9_weigh_25 : decode cX9_weigh 25 = .ok (.iload_n 1, 1) := by decide +kernel
theorem dX9_weigh_26 : decode cX9_weigh 26 = .ok (.iconst 2, 1) := by decide +kernel
theorem dX9_weigh_27 : decode cX9_weigh 27 = .ok (.invokevirtual 271, 3) := by decide +kernel
theorem dX9_weigh_30 : decode cX9_weigh 30 = .ok (.return_, 1) := by decide +kernel
set_option maxRecDepth 20000 in
theorem ggX9_weighMeans_X4_matching : GoodIn wsX9_weighMeans wsX4_matching := goodIn_r _ [8, 9, 10, 11, 7, 12, 13, 53, 54] (by decide +kernel) (by decide +kernel)
set_option maxRecDepth 20000 in
theorem gX9_weighMeans_X4_matching : GoodIn wsX9_weighMeans (wsV RX9 275 RX4 yX4_matching wsX4_matching) := goodIn_app (goodIn_of _ (by decide +kernel)) ggX9_weighMeans_X4_matching
set_option maxRecDepth 20000 in
theorem ggX9_weighMeans_X0_met : GoodIn wsX9_weighMeans wsX0_met := goodIn_r _ [18, 19, 55, 56, 57] (by decide +kernel) (by decide +kernel)
set_option maxRecDepth 20000 in
theorem gX9_weighMeans_X0_met : GoodIn wsX9_weighMeans (wsV RX9 133 RX0 yX0_met wsX0_met) := goodIn_app (goodIn_of _ (by decide +kernel)) ggX9_weighMeans_X0_met
set_option maxRecDepth 20000 in
theorem ggX9_weighMeans_X4_having : GoodIn wsX9_weighMeans wsX4_having := goodIn_r _ [23, 24, 5, 6, 7, 8, 9, 10, 11, 12, 13, 53, 54] (by decide +kernel) (by decide +kernel)
set_option maxRecDepth 20000 in
theorem gX9_weighMeans_X4_having : GoodIn wsX9_weighMeans (wsV RX9 95 RX4 yX4_having wsX4_having) := goodIn_app (goodIn_of _ (by decide +kernel)) ggX9_weighMeans_X4_having
set_option maxRecDepth 20000 in
theorem ggX9_weighMeans_X1_add : GoodIn wsX9_weighMeans wsX1_add := goodIn_r _ [29, 30, 31, 32, 33, 34, 28, 35, 36, 37, 38, 39, 40, 41, 42, 58, 59] (by decide +kernel) (by decide +kernel)
set_option maxRecDepth 20000 in
theorem gX9_weighMeans_X1_add : GoodIn wsX9_weighMeans (wsV RX9 268 RX1 yX1_add wsX1_add) := goodIn_app (goodIn_of _ (by decide +kernel)) ggX9_weighMeans_X1_add
theorem dX9_weighMeans_0 : decode cX9_weighMeans 0 = .ok (.aload_n 0, 1) := by decide +kernel
theorem dX9_weighMeans_1 : decode cX9_weighMeans 1 = .ok (.getfield 10, 3) := by decide +kernel
theorem dX9_weighMeans_4 : decode cX9_weighMeans 4 = .ok (.iload_n 1, 1) := by decide +kernel
theorem dX9_weighMeans_5 : decode cX9_weighMeans 5 = .ok (.iconst 2, 1) := by decide +kernel
theorem dX9_weighMeans_6 : decode cX9_weighMeans 6 = .ok (.iload_n 2, 1) := by decide +kernel
theorem dX9_weighMeans_7 : decode cX9_weighMeans 7 = .ok (.invokevirtual 275, 3) := by decide +kernel
theorem dX9_weighMeans_10 : decode cX9_weighMeans 10 = .ok (.i2l, 1) := by decide +kernel
theorem dX9_weighMeans_11 : decode cX9_weighMeans 11 = .ok (.lstore_n 3, 1) := by decide +kernel
theorem dX9_weighMeans_12 : decode cX9_weighMeans 12 = .ok (.lload_n 3, 1) := by decide +kernel
theorem dX9_weighMeans_13 : decode cX9_weighMeans 13 = .ok (.lconst 0, 1) := by decide +kernel
theorem dX9_weighMeans_14 : decode cX9_weighMeans 14 = .ok (.lcmp, 1) := by decide +kernel
theorem dX9_weighMeans_15 : decode cX9_weighMeans 15 = .ok (.ifCond .le 53, 3) := by decide +kernel
theorem dX9_weighMeans_18 : decode cX9_weighMeans 18 = .ok (.aload_n 0, 1) := by decide +kernel
theorem dX9_weighMeans_19 : decode cX9_weighMeans 19 = .ok (.getfield 33, 3) := by decide +kernel
theorem dX9_weighMeans_22 : decode cX9_weighMeans 22 = .ok (.iconst 3, 1) := by decide +kernel
theorem dX9_weighMeans_23 : decode cX9_weighMeans 23 = .ok (.iload_n 2, 1) := by decide +kernel
theorem dX9_weighMeans_24 : decode cX9_weighMeans 24 = .ok (.iconst 1, 1) := by decide +kernel
theorem dX9_weighMeans_25 : decode cX9_weighMeans 25 = .ok (.ior, 1) := by decide +kernel
theorem dX9_weighMeans_26 : decode cX9_weighMeans 26 = .ok (.invokevirtual 133, 3) := by decide +kernel
theorem dX9_weighMeans_29 : decode cX9_weighMeans 29 = .ok (.i2l, 1) := by decide +kernel
theorem dX9_weighMeans_30 : decode cX9_weighMeans 30 = .ok (.lstore 5, 2) := by decide +kernel
theorem dX9_weighMeans_32 : decode cX9_weighMeans 32 = .ok (.aload_n 0, 1) := by decide +kernel
theorem dX9_weighMeans_33 : decode cX9_weighMeans 33 = .ok (.getfield 33, 3) := by decide +kernel
theorem dX9_weighMeans_36 : decode cX9_weighMeans 36 = .ok (.iconst 2, 1) := by decide +kernel
theorem dX9_weighMeans_37 : decode cX9_weighMeans 37 = .ok (.iload_n 2, 1) := by decide +kernel
theorem dX9_weighMeans_38 : decode cX9_weighMeans 38 = .ok (.invokevirtual 133, 3) := by decide +kernel
theorem dX9_weighMeans_41 : decode cX9_weighMeans 41 = .ok (.i2l, 1) := by decide +kernel
theorem dX9_weighMeans_42 : decode cX9_weighMeans 42 = .ok (.lstore 7, 2) := by decide +kernel
theorem dX9_weighMeans_44 : decode cX9_weighMeans 44 = .ok (.aload_n 0, 1) := by decide +kernel
theorem dX9_weighMeans_45 : decode cX9_weighMeans 45 = .ok (.getfield 61, 3) := by decide +kernel
theorem dX9_weighMeans_48 : decode cX9_weighMeans 48 = .ok (.lload 5, 2) := by decide +kernel
theorem dX9_weighMeans_50 : decode cX9_weighMeans 50 = .ok (.lload_n 3, 1) := by decide +kernel
theorem dX9_weighMeans_51 : decode cX9_weighMeans 51 = .ok (.lmul, 1) := by decide +kernel
theorem dX9_weighMeans_52 : decode cX9_weighMeans 52 = .ok (.lload 7, 2) := by decide +kernel
theorem dX9_weighMeans_54 : decode cX9_weighMeans 54 = .ok (.aload_n 0, 1) := by decide +kernel
theorem dX9_weighMeans_55 : decode cX9_weighMeans 55 = .ok (.getfield 10, 3) := by decide +kernel
theorem dX9_weighMeans_58 : decode cX9_weighMeans 58 = .ok (.iload_n 1, 1) := by decide +kernel
theorem dX9_weighMeans_59 : decode cX9_weighMeans 59 = .ok (.iconst 0, 1) := by decide +kernel
theorem dX9_weighMeans_60 : decode cX9_weighMeans 60 = .ok (.invokevirtual 95, 3) := by decide +kernel
theorem dX9_weighMeans_63 : decode cX9_weighMeans 63 = .ok (.i2l, 1) := by decide +kernel
theorem dX9_weighMeans_64 : decode cX9_weighMeans 64 = .ok (.lmul, 1) := by decide +kernel
theorem dX9_weighMeans_65 : decode cX9_weighMeans 65 = .ok (.invokevirtual 268, 3) := by decide +kernel
theorem dX9_weighMeans_68 : decode cX9_weighMeans 68 = .ok (.return_, 1) := by decide +kernel
set_option maxRecDepth 20000 in
theorem ggX9_mistake_X4_having : GoodIn wsX9_mistake wsX4_having := goodIn_r _ [9, 10, 11, 12, 8, 13, 14, 15, 16, 17, 18, 106, 107] (by decide +kernel) (by decide +kernel)
set_option maxRecDepth 20000 in
theorem gX9_mistake_X4_having : GoodIn wsX9_mistake (wsV RX9 95 RX4 yX4_having wsX4_having) := goodIn_app (goodIn_of _ (by decide +kernel)) ggX9_mistake_X4_having
set_option maxRecDepth 20000 in
theorem ggX9_mistake_X5_leastDistance : GoodIn wsX9_mistake wsX5_leastDistance := goodIn_r _ [23, 24, 25, 26, 27, 28, 29, 30, 22, 31, 32, 33, 34, 35, 36, 37, 38, 39, 40, 41, 42, 43, 44, 45, 46, 47, 48, 49, 50, 51, 52, 53, 54, 108, 109] (by decide +kernel) (by decide +kernel)
set_option maxRecDepth 20000 in
theorem gX9_mistake_X5_leastDistance : GoodIn wsX9_mistake (wsV RX9 278 RX5 yX5_leastDistance wsX5_leastDistance) := goodIn_app (goodIn_of _ (by decide +kernel)) ggX9_mistake_X5_leastDistance
set_option maxRecDepth 20000 in
theorem ggX9_mistake_X9_lean : GoodIn wsX9_mistake wsX9_lean := goodIn_r _ [58, 4, 2, 59, 60, 61, 49, 62, 63, 64, 65, 8, 66, 67, 14, 15, 16, 17, 18, 68, 69, 70, 71, 72, 73, 74, 34, 75, 76, 77, 78, 79, 80, 5, 6, 7, 9, 10, 11, 12, 13, 81, 82, 83, 84, 85, 96, 97, 98, 99, 100, 101, 102, 103, 104, 105, 106, 107, 110, 111] (by decide +kernel) (by decide +kernel)
set_option maxRecDepth 20000 in
theorem gX9_mistake_X9_lean : GoodIn wsX9_mistake (wsV RX9 111 RX9 yX9_lean wsX9_lean) := goodIn_app (goodIn_of _ (by decide +kernel)) ggX9_mistake_X9_lean
set_option maxRecDepth 20000 in
theorem ggX9_mistake_X1_isThere : GoodIn wsX9_mistake wsX1_isThere := goodIn_r _ [89, 77, 110, 111] (by decide +kernel) (by decide +kernel)
set_option maxRecDepth 20000 in
theorem gX9_mistake_X1_isThere : GoodIn wsX9_mistake (wsV RX9 143 RX1 yX1_isThere wsX1_isThere) := goodIn_app (goodIn_of _ (by decide +kernel)) ggX9_mistake_X1_isThere
set_option maxRecDepth 20000 in
theorem ggX9_mistake_X1_hundredthsUp : GoodIn wsX9_mistake wsX1_hundredthsUp := goodIn_r _ [93, 76, 73, 74, 34, 75, 94, 77, 95, 87, 88, 71, 89, 110, 111] (by decide +kernel) (by decide +kernel)
set_option maxRecDepth 20000 in
theorem gX9_mistake_X1_hundredthsUp : GoodIn wsX9_mistake (wsV RX9 281 RX1 yX1_hundredthsUp wsX1_hundredthsUp) := goodIn_app (goodIn_of _ (by decide +kernel)) ggX9_mistake_X1_hundredthsUp
theorem dX9_mistake_0 : decode cX9_mistake 0 = .ok (.iload_n 2, 1) := by decide +kernel
theorem dX9_mistake_1 : decode cX9_mistake 1 = .ok (.ifCond .le 36, 3) := by decide +kernel
theorem dX9_mistake_4 : decode cX9_mistake 4 = .ok (.aload_n 0, 1) := by decide +kernel
theorem dX9_mistake_5 : decode cX9_mistake 5 = .ok (.getfield 40, 3) := by decide +kernel
theorem dX9_mistake_8 : decode cX9_mistake 8 = .ok (.aload_n 0, 1) := by decide +kernel
theorem dX9_mistake_9 : decode cX9_mistake 9 = .ok (.getfield 10, 3) := by decide +kernel
theorem dX9_mistake_12 : decode cX9_mistake 12 = .ok (.iload_n 1, 1) := by decide +kernel
theorem dX9_mistake_13 : decode cX9_mistake 13 = .ok (.iconst 0, 1) := by decide +kernel
theorem dX9_mistake_14 : decode cX9_mistake 14 = .ok (.invokevirtual 95, 3) := by decide +kernel
theorem dX9_mistake_17 : decode cX9_mistake 17 = .ok (.aload_n 0, 1) := by decide +kernel
theorem dX9_mistake_18 : decode cX9_mistake 18 = .ok (.getfield 10, 3) := by decide +kernel
theorem dX9_mistake_21 : decode cX9_mistake 21 = .ok (.iload_n 1, 1) := by decide +kernel
theorem dX9_mistake_22 : decode cX9_mistake 22 = .ok (.iconst 1, 1) := by decide +kernel
theorem dX9_mistake_23 : decode cX9_mistake 23 = .ok (.invokevirtual 95, 3) := by decide +kernel
theorem dX9_mistake_26 : decode cX9_mistake 26 = .ok (.iload_n 2, 1) := by decide +kernel
theorem dX9_mistake_27 : decode cX9_mistake 27 = .ok (.aload_n 0, 1) := by decide +kernel
theorem dX9_mistake_28 : decode cX9_mistake 28 = .ok (.getfield 65, 3) := by decide +kernel
theorem dX9_mistake_31 : decode cX9_mistake 31 = .ok (.iconst 2, 1) := by decide +kernel
theorem dX9_mistake_32 : decode cX9_mistake 32 = .ok (.iaload, 1) := by decide +kernel
theorem dX9_mistake_33 : decode cX9_mistake 33 = .ok (.invokevirtual 278, 3) := by decide +kernel
theorem dX9_mistake_36 : decode cX9_mistake 36 = .ok (.ireturn, 1) := by decide +kernel
theorem dX9_mistake_37 : decode cX9_mistake 37 = .ok (.aload_n 0, 1) := by decide +kernel
theorem dX9_mistake_38 : decode cX9_mistake 38 = .ok (.iload_n 1, 1) := by decide +kernel
theorem dX9_mistake_39 : decode cX9_mistake 39 = .ok (.invokevirtual 111, 3) := by decide +kernel
theorem dX9_mistake_42 : decode cX9_mistake 42 = .ok (.aload_n 0, 1) := by decide +kernel
theorem dX9_mistake_43 : decode cX9_mistake 43 = .ok (.getfield 61, 3) := by decide +kernel
theorem dX9_mistake_46 : decode cX9_mistake 46 = .ok (.invokevirtual 143, 3) := by decide +kernel
theorem dX9_mistake_49 : decode cX9_mistake 49 = .ok (.ifCond .eq 13, 3) := by decide +kernel
theorem dX9_mistake_52 : decode cX9_mistake 52 = .ok (.aload_n 0, 1) := by decide +kernel
theorem dX9_mistake_53 : decode cX9_mistake 53 = .ok (.getfield 61, 3) := by decide +kernel
theorem dX9_mistake_56 : decode cX9_mistake 56 = .ok (.invokevirtual 281, 3) := by decide +kernel
theorem dX9_mistake_59 : decode cX9_mistake 59 = .ok (.goto 5, 3) := by decide +kernel
theorem dX9_mistake_62 : decode cX9_mistake 62 = .ok (.bipush 101, 2) := by decide +kernel
theorem dX9_mistake_64 : decode cX9_mistake 64 = .ok (.ireturn, 1) := by decide +kernel
set_option maxRecDepth 20000 in
theorem ggX9_greatestMistake_X4_having : GoodIn wsX9_greatestMistake wsX4_having := goodIn_r _ [10, 11, 12, 13, 9, 14, 15, 16, 17, 18, 19, 113, 114] (by decide +kernel) (by decide +kernel)
set_option maxRecDepth 20000 in
theorem gX9_greatestMistake_X4_having : GoodIn wsX9_greatestMistake (wsV RX9 95 RX4 yX4_having wsX4_having) := goodIn_app (goodIn_of _ (by decide +kernel)) ggX9_greatestMistake_X4_having
set_option maxRecDepth 20000 in
theorem ggX9_greatestMistake_X9_mistake : GoodIn wsX9_greatestMistake wsX9_mistake := goodIn_r _ [24, 25, 1, 26, 27, 6, 7, 8, 9, 10, 11, 12, 13, 14, 15, 16, 17, 18, 19, 28, 29, 30, 31, 32, 33, 34, 35, 36, 37, 38, 39, 40, 41, 42, 4, 43, 44, 45, 46, 47, 48, 49, 50, 51, 52, 53, 54, 55, 56, 23, 57, 58, 59, 60, 61, 62, 63, 64, 65, 66, 67, 68, 69, 70, 71, 72, 73, 74, 75, 76, 77, 78, 79, 80, 81, 82, 83, 84, 85, 86, 87, 88, 89, 90, 91, 92, 93, 94, 95, 96, 97, 98, 99, 100, 101, 102, 103, 104, 105, 106, 107, 108, 109, 110, 111, 112, 113, 114, 115, 116, 117, 118] (by decide +kernel) (by decide +kernel)
set_option maxRecDepth 20000 in
theorem gX9_greatestMistake_X9_mistake : GoodIn wsX9_greatestMistake (wsV RX9 211 RX9 yX9_mistake wsX9_mistake) := goodIn_app (goodIn_of _ (by decide +kernel)) ggX9_greatestMistake_X9_mistake
theorem dX9_greatestMistake_0 : decode cX9_greatestMistake 0 = .ok (.iconst 0, 1) := by decide +kernel
theorem dX9_greatestMistake_1 : decode cX9_greatestMistake 1 = .ok (.istore_n 2, 1) := by decide +kernel
theorem dX9_greatestMistake_2 : decode cX9_greatestMistake 2 = .ok (.iconst 0, 1) := by decide +kernel
theorem dX9_greatestMistake_3 : decode cX9_greatestMistake 3 = .ok (.istore_n 3, 1) := by decide +kernel
theorem dX9_greatestMistake_4 : decode cX9_greatestMistake 4 = .ok (.iload_n 3, 1) := by decide +kernel
theorem dX9_greatestMistake_5 : decode cX9_greatestMistake 5 = .ok (.iconst 4, 1) := by decide +kernel
theorem dX9_greatestMistake_6 : decode cX9_greatestMistake 6 = .ok (.if_icmp .ge 32, 3) := by decide +kernel
theorem dX9_greatestMistake_9 : decode cX9_greatestMistake 9 = .ok (.aload_n 0, 1) := by decide +kernel
theorem dX9_greatestMistake_10 : decode cX9_greatestMistake 10 = .ok (.getfield 10, 3) := by decide +kernel
theorem dX9_greatestMistake_13 : decode cX9_greatestMistake 13 = .ok (.iload_n 3, 1) := by decide +kernel
theorem dX9_greatestMistake_14 : decode cX9_greatestMistake 14 = .ok (.iconst 0, 1) := by decide +kernel
theorem dX9_greatestMistake_15 : decode cX9_greatestMistake 15 = .ok (.invokevirtual 95, 3) := by decide +kernel
theorem dX9_greatestMistake_18 : decode cX9_greatestMistake 18 = .ok (.ifCond .le 14, 3) := by decide +kernel
theorem dX9_greatestMistake_21 : decode cX9_greatestMistake 21 = .ok (.iload_n 2, 1) := by decide +kernel
theorem dX9_greatestMistake_22 : decode cX9_greatestMistake 22 = .ok (.aload_n 0, 1) := by decide +kernel
theorem dX9_greatestMistake_23 : decode cX9_greatestMistake 23 = .ok (.iload_n 3, 1) := by decide +kernel
theorem dX9_greatestMistake_24 : decode cX9_greatestMistake 24 = .ok (.iload_n 1, 1) := by decide +kernel
theorem dX9_greatestMistake_25 : decode cX9_greatestMistake 25 = .ok (.invokevirtual 211, 3) := by decide +kernel
theorem dX9_greatestMistake_28 : decode cX9_greatestMistake 28 = .ok (.invokestatic 201, 3) := by decide +kernel
theorem dX9_greatestMistake_31 : decode cX9_greatestMistake 31 = .ok (.istore_n 2, 1) := by decide +kernel
theorem dX9_greatestMistake_32 : decode cX9_greatestMistake 32 = .ok (.iinc 3 1, 3) := by decide +kernel
theorem dX9_greatestMistake_35 : decode cX9_greatestMistake 35 = .ok (.goto (-31), 3) := by decide +kernel
theorem dX9_greatestMistake_38 : decode cX9_greatestMistake 38 = .ok (.iload_n 2, 1) := by decide +kernel
theorem dX9_greatestMistake_39 : decode cX9_greatestMistake 39 = .ok (.ireturn, 1) := by decide +kernel
set_option maxRecDepth 20000 in
theorem ggX9_isPayable_X9_cards : GoodIn wsX9_isPayable wsX9_cards := goodIn_r _ [6, 1, 7, 8, 9, 10, 11, 12, 13, 14, 15, 16, 17, 18, 19, 20, 21, 22, 23, 24, 25, 26, 27, 28, 29, 30, 31, 32, 33] (by decide +kernel) (by decide +kernel)
set_option maxRecDepth 20000 in
theorem gX9_isPayable_X9_cards : GoodIn wsX9_isPayable (wsV RX9 284 RX9 yX9_cards wsX9_cards) := goodIn_app (goodIn_of _ (by decide +kernel)) ggX9_isPayable_X9_cards
theorem dX9_isPayable_0 : decode cX9_isPayable 0 = .ok (.iload_n 1, 1) := by decide +kernel
theorem dX9_isPayable_1 : decode cX9_isPayable 1 = .ok (.ifCond .le 21, 3) := by decide +kernel
theorem dX9_isPayable_4 : decode cX9_isPayable 4 = .ok (.iload_n 1, 1) := by decide +kernel
theorem dX9_isPayable_5 : decode cX9_isPayable 5 = .ok (.aload_n 0, 1) := by decide +kernel
theorem dX9_isPayable_6 : decode cX9_isPayable 6 = .ok (.getfield 65, 3) := by decide +kernel
theorem dX9_isPayable_9 : decode cX9_isPayable 9 = .ok (.iconst 1, 1) := by decide +kernel
theorem dX9_isPayable_10 : decode cX9_isPayable 10 = .ok (.iaload, 1) := by decide +kernel
theorem dX9_isPayable_11 : decode cX9_isPayable 11 = .ok (.imul, 1) := by decide +kernel
theorem dX9_isPayable_12 : decode cX9_isPayable 12 = .ok (.iload_n 2, 1) := by decide +kernel
theorem dX9_isPayable_13 : decode cX9_isPayable 13 = .ok (.if_icmp .gt 7, 3) := by decide +kernel
theorem dX9_isPayable_16 : decode cX9_isPayable 16 = .ok (.iconst 1, 1) := by decide +kernel
theorem dX9_isPayable_17 : decode cX9_isPayable 17 = .ok (.goto 4, 3) := by decide +kernel
theorem dX9_isPayable_20 : decode cX9_isPayable 20 = .ok (.iconst 0, 1) := by decide +kernel
theorem dX9_isPayable_21 : decode cX9_isPayable 21 = .ok (.ireturn, 1) := by decide +kernel
theorem dX9_isPayable_22 : decode cX9_isPayable 22 = .ok (.iconst 0, 1) := by decide +kernel
theorem dX9_isPayable_23 : decode cX9_isPayable 23 = .ok (.istore_n 3, 1) := by decide +kernel
theorem dX9_isPayable_24 : decode cX9_isPayable 24 = .ok (.iload_n 3, 1) := by decide +kernel
theorem dX9_isPayable_25 : decode cX9_isPayable 25 = .ok (.iconst 4, 1) := by decide +kernel
theorem dX9_isPayable_26 : decode cX9_isPayable 26 = .ok (.if_icmp .ge 20, 3) := by decide +kernel
theorem dX9_isPayable_29 : decode cX9_isPayable 29 = .ok (.aload_n 0, 1) := by decide +kernel
theorem dX9_isPayable_30 : decode cX9_isPayable 30 = .ok (.iload_n 3, 1) := by decide +kernel
theorem dX9_isPayable_31 : decode cX9_isPayable 31 = .ok (.invokevirtual 284, 3) := by decide +kernel
theorem dX9_isPayable_34 : decode cX9_isPayable 34 = .ok (.iload_n 2, 1) := by decide +kernel
theorem dX9_isPayable_35 : decode cX9_isPayable 35 = .ok (.if_icmp .le 5, 3) := by decide +kernel
theorem dX9_isPayable_38 : decode cX9_isPayable 38 = .ok (.iconst 0, 1) := by decide +kernel
theorem dX9_isPayable_39 : decode cX9_isPayable 39 = .ok (.ireturn, 1) := by decide +kernel
theorem dX9_isPayable_40 : decode cX9_isPayable 40 = .ok (.iinc 3 1, 3) := by decide +kernel
theorem dX9_isPayable_43 : decode cX9_isPayable 43 = .ok (.goto (-19), 3) := by decide +kernel
theorem dX9_isPayable_46 : decode cX9_isPayable 46 = .ok (.iconst 1, 1) := by decide +kernel
theorem dX9_isPayable_47 : decode cX9_isPayable 47 = .ok (.ireturn, 1) := by decide +kernel
set_option maxRecDepth 20000 in
theorem ggX9_cards_X4_having : GoodIn wsX9_cards wsX4_having := goodIn_r _ [7, 8, 9, 10, 6, 11, 12, 13, 14, 15, 16, 27, 28] (by decide +kernel) (by decide +kernel)
set_option maxRecDepth 20000 in
theorem gX9_cards_X4_having : GoodIn wsX9_cards (wsV RX9 95 RX4 yX4_having wsX4_having) := goodIn_app (goodIn_of _ (by decide +kernel)) ggX9_cards_X4_having
theorem dX9_cards_0 : decode cX9_cards 0 = .ok (.aload_n 0, 1) := by decide +kernel
theorem dX9_cards_1 : decode cX9_cards 1 = .ok (.getfield 65, 3) := by decide +kernel
theorem dX9_cards_4 : decode cX9_cards 4 = .ok (.iconst 0, 1) := by decide +kernel
theorem dX9_cards_5 : decode cX9_cards 5 = .ok (.iaload, 1) := by decide +kernel
theorem dX9_cards_6 : decode cX9_cards 6 = .ok (.aload_n 0, 1) := by decide +kernel
theorem dX9_cards_7 : decode cX9_cards 7 = .ok (.getfield 10, 3) := by decide +kernel
theorem dX9_cards_10 : decode cX9_cards 10 = .ok (.iload_n 1, 1) := by decide +kernel
theorem dX9_cards_11 : decode cX9_cards 11 = .ok (.iconst 4, 1) := by decide +kernel
theorem dX9_cards_12 : decode cX9_cards 12 = .ok (.invokevirtual 95, 3) := by decide +kernel
theorem dX9_cards_15 : decode cX9_cards 15 = .ok (.imul, 1) := by decide +kernel
theorem dX9_cards_16 : decode cX9_cards 16 = .ok (.ireturn, 1) := by decide +kernel
theorem dX9_askingCost_0 : decode cX9_askingCost 0 = .ok (.aload_n 0, 1) := by decide +kernel
theorem dX9_askingCost_1 : decode cX9_askingCost 1 = .ok (.dup, 1) := by decide +kernel
theorem dX9_askingCost_2 : decode cX9_askingCost 2 = .ok (.getfield 69, 3) := by decide +kernel
theorem dX9_askingCost_5 : decode cX9_askingCost 5 = .ok (.lconst 1, 1) := by decide +kernel
theorem dX9_askingCost_6 : decode cX9_askingCost 6 = .ok (.ladd, 1) := by decide +kernel
theorem dX9_askingCost_7 : decode cX9_askingCost 7 = .ok (.putfield 69, 3) := by decide +kernel
theorem dX9_askingCost_10 : decode cX9_askingCost 10 = .ok (.iconst 2, 1) := by decide +kernel
theorem dX9_askingCost_11 : decode cX9_askingCost 11 = .ok (.ireturn, 1) := by decide +kernel
set_option maxRecDepth 20000 in
theorem ggX9_postedCost_X9_askingCost : GoodIn wsX9_postedCost wsX9_askingCost := goodIn_r _ [7, 1, 28, 29, 30, 31, 32, 33, 34, 35, 36, 37] (by decide +kernel) (by decide +kernel)
set_option maxRecDepth 20000 in
theorem gX9_postedCost_X9_askingCost : GoodIn wsX9_postedCost (wsV RX9 223 RX9 yX9_askingCost wsX9_askingCost) := goodIn_app (goodIn_of _ (by decide +kernel)) ggX9_postedCost_X9_askingCost
set_option maxRecDepth 20000 in
theorem ggX9_postedCost_X9_cards : GoodIn wsX9_postedCost wsX9_cards := goodIn_r _ [11, 12, 13, 14, 15, 16, 17, 18, 19, 20, 21, 22, 23, 24, 25, 26, 27, 28, 29, 30, 31, 32, 33, 34, 35, 36, 37, 38, 39] (by decide +kernel) (by decide +kernel)
set_option maxRecDepth 20000 in
theorem gX9_postedCost_X9_cards : GoodIn wsX9_postedCost (wsV RX9 284 RX9 yX9_cards wsX9_cards) := goodIn_app (goodIn_of _ (by decide +kernel)) ggX9_postedCost_X9_cards
theorem dX9_postedCost_0 : decode cX9_postedCost 0 = .ok (.aload_n 0, 1) := by decide +kernel
theorem dX9_postedCost_1 : decode cX9_postedCost 1 = .ok (.dup, 1) := by decide +kernel
theorem dX9_postedCost_2 : decode cX9_postedCost 2 = .ok (.getfield 69, 3) := by decide +kernel
theorem dX9_postedCost_5 : decode cX9_postedCost 5 = .ok (.ldc2_w 287, 3) := by decide +kernel
theorem dX9_postedCost_8 : decode cX9_postedCost 8 = .ok (.ladd, 1) := by decide +kernel
theorem dX9_postedCost_9 : decode cX9_postedCost 9 = .ok (.putfield 69, 3) := by decide +kernel
theorem dX9_postedCost_12 : decode cX9_postedCost 12 = .ok (.aload_n 0, 1) := by decide +kernel
theorem dX9_postedCost_13 : decode cX9_postedCost 13 = .ok (.invokevirtual 223, 3) := by decide +kernel
theorem dX9_postedCost_16 : decode cX9_postedCost 16 = .ok (.aload_n 0, 1) := by decide +kernel
theorem dX9_postedCost_17 : decode cX9_postedCost 17 = .ok (.iload_n 1, 1) := by decide +kernel
theorem dX9_postedCost_18 : decode cX9_postedCost 18 = .ok (.invokevirtual 284, 3) := by decide +kernel
theorem dX9_postedCost_21 : decode cX9_postedCost 21 = .ok (.iadd, 1) := by decide +kernel
theorem dX9_postedCost_22 : decode cX9_postedCost 22 = .ok (.ireturn, 1) := by decide +kernel
set_option maxRecDepth 20000 in
theorem ggX9_quotaCost_X9_askingCost : GoodIn wsX9_quotaCost wsX9_askingCost := goodIn_r _ [8, 1, 9, 10, 11, 12, 13, 14, 15, 16, 17, 18] (by decide +kernel) (by decide +kernel)
set_option maxRecDepth 20000 in
theorem gX9_quotaCost_X9_askingCost : GoodIn wsX9_quotaCost (wsV RX9 223 RX9 yX9_askingCost wsX9_askingCost) := goodIn_app (goodIn_of _ (by decide +kernel)) ggX9_quotaCost_X9_askingCost
theorem dX9_quotaCost_0 : decode cX9_quotaCost 0 = .ok (.aload_n 0, 1) := by decide +kernel
theorem dX9_quotaCost_1 : decode cX9_quotaCost 1 = .ok (.dup, 1) := by decide +kernel
theorem dX9_quotaCost_2 : decode cX9_quotaCost 2 = .ok (.getfield 69, 3) := by decide +kernel
theorem dX9_quotaCost_5 : decode cX9_quotaCost 5 = .ok (.ldc2_w 289, 3) := by decide +kernel
theorem dX9_quotaCost_8 : decode cX9_quotaCost 8 = .ok (.ladd, 1) := by decide +kernel
theorem dX9_quotaCost_9 : decode cX9_quotaCost 9 = .ok (.putfield 69, 3) := by decide +kernel
theorem dX9_quotaCost_12 : decode cX9_quotaCost 12 = .ok (.aload_n 0, 1) := by decide +kernel
theorem dX9_quotaCost_13 : decode cX9_quotaCost 13 = .ok (.invokevirtual 223, 3) := by decide +kernel
theorem dX9_quotaCost_16 : decode cX9_quotaCost 16 = .ok (.aload_n 0, 1) := by decide +kernel
theorem dX9_quotaCost_17 : decode cX9_quotaCost 17 = .ok (.getfield 26, 3) := by decide +kernel
theorem dX9_quotaCost_20 : decode cX9_quotaCost 20 = .ok (.getfield 251, 3) := by decide +kernel
theorem dX9_quotaCost_23 : decode cX9_quotaCost 23 = .ok (.iadd, 1) := by decide +kernel
theorem dX9_quotaCost_24 : decode cX9_quotaCost 24 = .ok (.ireturn, 1) := by decide +kernel
set_option maxRecDepth 20000 in
theorem ggX9_lotCost_X9_askingCost : GoodIn wsX9_lotCost wsX9_askingCost := goodIn_r _ [9, 1, 24, 25, 26, 27, 28, 29, 30, 31, 32, 33] (by decide +kernel) (by decide +kernel)
set_option maxRecDepth 20000 in
theorem gX9_lotCost_X9_askingCost : GoodIn wsX9_lotCost (wsV RX9 223 RX9 yX9_askingCost wsX9_askingCost) := goodIn_app (goodIn_of _ (by decide +kernel)) ggX9_lotCost_X9_askingCost
set_option maxRecDepth 20000 in
theorem ggX9_lotCost_X4_having : GoodIn wsX9_lotCost wsX4_having := goodIn_r _ [14, 15, 16, 17, 13, 18, 19, 20, 21, 22, 23, 34, 35] (by decide +kernel) (by decide +kernel)
set_option maxRecDepth 20000 in
theorem gX9_lotCost_X4_having : GoodIn wsX9_lotCost (wsV RX9 95 RX4 yX4_having wsX4_having) := goodIn_app (goodIn_of _ (by decide +kernel)) ggX9_lotCost_X4_having
theorem dX9_lotCost_0 : decode cX9_lotCost 0 = .ok (.aload_n 0, 1) := by decide +kernel
theorem dX9_lotCost_1 : decode cX9_lotCost 1 = .ok (.dup, 1) := by decide +kernel
theorem dX9_lotCost_2 : decode cX9_lotCost 2 = .ok (.getfield 69, 3) := by decide +kernel
theorem dX9_lotCost_5 : decode cX9_lotCost 5 = .ok (.ldc2_w 291, 3) := by decide +kernel
theorem dX9_lotCost_8 : decode cX9_lotCost 8 = .ok (.ladd, 1) := by decide +kernel
theorem dX9_lotCost_9 : decode cX9_lotCost 9 = .ok (.putfield 69, 3) := by decide +kernel
theorem dX9_lotCost_12 : decode cX9_lotCost 12 = .ok (.aload_n 0, 1) := by decide +kernel
theorem dX9_lotCost_13 : decode cX9_lotCost 13 = .ok (.invokevirtual 223, 3) := by decide +kernel
theorem dX9_lotCost_16 : decode cX9_lotCost 16 = .ok (.aload_n 0, 1) := by decide +kernel
theorem dX9_lotCost_17 : decode cX9_lotCost 17 = .ok (.getfield 65, 3) := by decide +kernel
theorem dX9_lotCost_20 : decode cX9_lotCost 20 = .ok (.iconst 1, 1) := by decide +kernel
theorem dX9_lotCost_21 : decode cX9_lotCost 21 = .ok (.iaload, 1) := by decide +kernel
theorem dX9_lotCost_22 : decode cX9_lotCost 22 = .ok (.aload_n 0, 1) := by decide +kernel
theorem dX9_lotCost_23 : decode cX9_lotCost 23 = .ok (.getfield 10, 3) := by decide +kernel
theorem dX9_lotCost_26 : decode cX9_lotCost 26 = .ok (.iload_n 1, 1) := by decide +kernel
theorem dX9_lotCost_27 : decode cX9_lotCost 27 = .ok (.iconst 0, 1) := by decide +kernel
theorem dX9_lotCost_28 : decode cX9_lotCost 28 = .ok (.invokevirtual 95, 3) := by decide +kernel
theorem dX9_lotCost_31 : decode cX9_lotCost 31 = .ok (.imul, 1) := by decide +kernel
theorem dX9_lotCost_32 : decode cX9_lotCost 32 = .ok (.iadd, 1) := by decide +kernel
theorem dX9_lotCost_33 : decode cX9_lotCost 33 = .ok (.ireturn, 1) := by decide +kernel
set_option maxRecDepth 20000 in
theorem ggX9_calledCost_X9_lotCost : GoodIn wsX9_calledCost wsX9_lotCost := goodIn_r _ [7, 1, 8, 9, 10, 11, 12, 13, 6, 14, 15, 16, 17, 18, 19, 20, 21, 22, 23, 24, 25, 26, 27, 28, 29, 30, 31, 32, 33, 34, 35, 36, 37, 38, 39, 40] (by decide +kernel) (by decide +kernel)
set_option maxRecDepth 20000 in
theorem gX9_calledCost_X9_lotCost : GoodIn wsX9_calledCost (wsV RX9 232 RX9 yX9_lotCost wsX9_lotCost) := goodIn_app (goodIn_of _ (by decide +kernel)) ggX9_calledCost_X9_lotCost
theorem dX9_calledCost_0 : decode cX9_calledCost 0 = .ok (.aload_n 0, 1) := by decide +kernel
theorem dX9_calledCost_1 : decode cX9_calledCost 1 = .ok (.dup, 1) := by decide +kernel
theorem dX9_calledCost_2 : decode cX9_calledCost 2 = .ok (.getfield 69, 3) := by decide +kernel
theorem dX9_calledCost_5 : decode cX9_calledCost 5 = .ok (.ldc2_w 293, 3) := by decide +kernel
theorem dX9_calledCost_8 : decode cX9_calledCost 8 = .ok (.ladd, 1) := by decide +kernel
theorem dX9_calledCost_9 : decode cX9_calledCost 9 = .ok (.putfield 69, 3) := by decide +kernel
theorem dX9_calledCost_12 : decode cX9_calledCost 12 = .ok (.aload_n 0, 1) := by decide +kernel
theorem dX9_calledCost_13 : decode cX9_calledCost 13 = .ok (.iload_n 1, 1) := by decide +kernel
theorem dX9_calledCost_14 : decode cX9_calledCost 14 = .ok (.invokevirtual 232, 3) := by decide +kernel
theorem dX9_calledCost_17 : decode cX9_calledCost 17 = .ok (.istore_n 2, 1) := by decide +kernel
theorem dX9_calledCost_18 : decode cX9_calledCost 18 = .ok (.iload_n 2, 1) := by decide +kernel
theorem dX9_calledCost_19 : decode cX9_calledCost 19 = .ok (.iload_n 2, 1) := by decide +kernel
theorem dX9_calledCost_20 : decode cX9_calledCost 20 = .ok (.iconst 2, 1) := by decide +kernel
theorem dX9_calledCost_21 : decode cX9_calledCost 21 = .ok (.idiv, 1) := by decide +kernel
theorem dX9_calledCost_22 : decode cX9_calledCost 22 = .ok (.iadd, 1) := by decide +kernel
theorem dX9_calledCost_23 : decode cX9_calledCost 23 = .ok (.ireturn, 1) := by decide +kernel
set_option maxRecDepth 20000 in
theorem ggX9_lateCost_X9_askingCost : GoodIn wsX9_lateCost wsX9_askingCost := goodIn_r _ [8, 1, 9, 10, 11, 12, 13, 14, 15, 16, 17, 18] (by decide +kernel) (by decide +kernel)
set_option maxRecDepth 20000 in
theorem gX9_lateCost_X9_askingCost : GoodIn wsX9_lateCost (wsV RX9 223 RX9 yX9_askingCost wsX9_askingCost) := goodIn_app (goodIn_of _ (by decide +kernel)) ggX9_lateCost_X9_askingCost
theorem dX9_lateCost_0 : decode cX9_lateCost 0 = .ok (.aload_n 0, 1) := by decide +kernel
theorem dX9_lateCost_1 : decode cX9_lateCost 1 = .ok (.dup, 1) := by decide +kernel
theorem dX9_lateCost_2 : decode cX9_lateCost 2 = .ok (.getfield 69, 3) := by decide +kernel
theorem dX9_lateCost_5 : decode cX9_lateCost 5 = .ok (.ldc2_w 295, 3) := by decide +kernel
theorem dX9_lateCost_8 : decode cX9_lateCost 8 = .ok (.ladd, 1) := by decide +kernel
theorem dX9_lateCost_9 : decode cX9_lateCost 9 = .ok (.putfield 69, 3) := by decide +kernel
theorem dX9_lateCost_12 : decode cX9_lateCost 12 = .ok (.aload_n 0, 1) := by decide +kernel
theorem dX9_lateCost_13 : decode cX9_lateCost 13 = .ok (.invokevirtual 223, 3) := by decide +kernel
theorem dX9_lateCost_16 : decode cX9_lateCost 16 = .ok (.aload_n 0, 1) := by decide +kernel
theorem dX9_lateCost_17 : decode cX9_lateCost 17 = .ok (.getfield 47, 3) := by decide +kernel
theorem dX9_lateCost_20 : decode cX9_lateCost 20 = .ok (.getfield 255, 3) := by decide +kernel
theorem dX9_lateCost_23 : decode cX9_lateCost 23 = .ok (.iadd, 1) := by decide +kernel
theorem dX9_lateCost_24 : decode cX9_lateCost 24 = .ok (.ireturn, 1) := by decide +kernel
set_option maxRecDepth 20000 in
theorem ggX9_shadowCost_X9_postedCost : GoodIn wsX9_shadowCost wsX9_postedCost := goodIn_r _ [7, 1, 8, 9, 10, 11, 6, 12, 13, 14, 15, 16, 17, 18, 19, 20, 21, 22, 23, 24, 25, 26, 27, 28, 29, 30, 31, 32, 33, 34, 35, 36, 37, 38, 39, 40, 41, 42, 43, 44] (by decide +kernel) (by decide +kernel)
set_option maxRecDepth 20000 in
theorem gX9_shadowCost_X9_postedCost : GoodIn wsX9_shadowCost (wsV RX9 226 RX9 yX9_postedCost wsX9_postedCost) := goodIn_app (goodIn_of _ (by decide +kernel)) ggX9_shadowCost_X9_postedCost
theorem dX9_shadowCost_0 : decode cX9_shadowCost 0 = .ok (.aload_n 0, 1) := by decide +kernel
theorem dX9_shadowCost_1 : decode cX9_shadowCost 1 = .ok (.dup, 1) := by decide +kernel
theorem dX9_shadowCost_2 : decode cX9_shadowCost 2 = .ok (.getfield 69, 3) := by decide +kernel
theorem dX9_shadowCost_5 : decode cX9_shadowCost 5 = .ok (.ldc2_w 297, 3) := by decide +kernel
theorem dX9_shadowCost_8 : decode cX9_shadowCost 8 = .ok (.ladd, 1) := by decide +kernel
theorem dX9_shadowCost_9 : decode cX9_shadowCost 9 = .ok (.putfield 69, 3) := by decide +kernel
theorem dX9_shadowCost_12 : decode cX9_shadowCost 12 = .ok (.aload_n 0, 1) := by decide +kernel
theorem dX9_shadowCost_13 : decode cX9_shadowCost 13 = .ok (.iload_n 1, 1) := by decide +kernel
theorem dX9_shadowCost_14 : decode cX9_shadowCost 14 = .ok (.invokevirtual 226, 3) := by decide +kernel
theorem dX9_shadowCost_17 : decode cX9_shadowCost 17 = .ok (.bipush 9, 2) := by decide +kernel
theorem dX9_shadowCost_19 : decode cX9_shadowCost 19 = .ok (.iadd, 1) := by decide +kernel
theorem dX9_shadowCost_20 : decode cX9_shadowCost 20 = .ok (.bipush 10, 2) := by decide +kernel
theorem dX9_shadowCost_22 : decode cX9_shadowCost 22 = .ok (.idiv, 1) := by decide +kernel
theorem dX9_shadowCost_23 : decode cX9_shadowCost 23 = .ok (.ireturn, 1) := by decide +kernel
theorem dX10_init_0 : decode cX10_init 0 = .ok (.aload_n 0, 1) := by decide +kernel
theorem dX10_init_1 : decode cX10_init 1 = .ok (.invokespecial 1, 3) := by decide +kernel
theorem dX10_init_4 : decode cX10_init 4 = .ok (.aload_n 0, 1) := by decide +kernel
theorem dX10_init_5 : decode cX10_init 5 = .ok (.sipush 2601, 3) := by decide +kernel
theorem dX10_init_8 : decode cX10_init 8 = .ok (.newarray .long, 2) := by decide +kernel
theorem dX10_init_10 : decode cX10_init 10 = .ok (.putfield 7, 3) := by decide +kernel
theorem dX10_init_13 : decode cX10_init 13 = .ok (.aload_n 0, 1) := by decide +kernel
theorem dX10_init_14 : decode cX10_init 14 = .ok (.bipush 32, 2) := by decide +kernel
theorem dX10_init_16 : decode cX10_init 16 = .ok (.newarray .int, 2) := by decide +kernel
theorem dX10_init_18 : decode cX10_init 18 = .ok (.putfield 13, 3) := by decide +kernel
theorem dX10_init_21 : decode cX10_init 21 = .ok (.aload_n 0, 1) := by decide +kernel
theorem dX10_init_22 : decode cX10_init 22 = .ok (.bipush 8, 2) := by decide +kernel
theorem dX10_init_24 : decode cX10_init 24 = .ok (.newarray .int, 2) := by decide +kernel
theorem dX10_init_26 : decode cX10_init 26 = .ok (.putfield 17, 3) := by decide +kernel
theorem dX10_init_29 : decode cX10_init 29 = .ok (.aload_n 0, 1) := by decide +kernel
theorem dX10_init_30 : decode cX10_init 30 = .ok (.sipush 300, 3) := by decide +kernel
theorem dX10_init_33 : decode cX10_init 33 = .ok (.newarray .int, 2) := by decide +kernel
theorem dX10_init_35 : decode cX10_init 35 = .ok (.putfield 20, 3) := by decide +kernel
theorem dX10_init_38 : decode cX10_init 38 = .ok (.aload_n 0, 1) := by decide +kernel
theorem dX10_init_39 : decode cX10_init 39 = .ok (.bipush 50, 2) := by decide +kernel
theorem dX10_init_41 : decode cX10_init 41 = .ok (.newarray .int, 2) := by decide +kernel
theorem dX10_init_43 : decode cX10_init 43 = .ok (.putfield 23, 3) := by decide +kernel
theorem dX10_init_46 : decode cX10_init 46 = .ok (.aload_n 0, 1) := by decide +kernel
theorem dX10_init_47 : decode cX10_init 47 = .ok (.bipush 8, 2) := by decide +kernel
theorem dX10_init_49 : decode cX10_init 49 = .ok (.newarray .int, 2) := by decide +kernel
theorem dX10_init_51 : decode cX10_init 51 = .ok (.putfield 26, 3) := by decide +kernel
theorem dX10_init_54 : decode cX10_init 54 = .ok (.aload_n 0, 1) := by decide +kernel
theorem dX10_init_55 : decode cX10_init 55 = .ok (.bipush 60, 2) := by decide +kernel
theorem dX10_init_57 : decode cX10_init 57 = .ok (.newarray .int, 2) := by decide +kernel
theorem dX10_init_59 : decode cX10_init 59 = .ok (.putfield 29, 3) := by decide +kernel
theorem dX10_init_62 : decode cX10_init 62 = .ok (.aload_n 0, 1) := by decide +kernel
theorem dX10_init_63 : decode cX10_init 63 = .ok (.bipush 72, 2) := by decide +kernel
theorem dX10_init_65 : decode cX10_init 65 = .ok (.newarray .int, 2) := by decide +kernel
theorem dX10_init_67 : decode cX10_init 67 = .ok (.putfield 32, 3) := by decide +kernel
theorem dX10_init_70 : decode cX10_init 70 = .ok (.aload_n 0, 1) := by decide +kernel
theorem dX10_init_71 : decode cX10_init 71 = .ok (.iconst 1, 1) := by decide +kernel
theorem dX10_init_72 : decode cX10_init 72 = .ok (.putfield 35, 3) := by decide +kernel
theorem dX10_init_75 : decode cX10_init 75 = .ok (.aload_n 0, 1) := by decide +kernel
theorem dX10_init_76 : decode cX10_init 76 = .ok (.iconst 5, 1) := by decide +kernel
theorem dX10_init_77 : decode cX10_init 77 = .ok (.putfield 39, 3) := by decide +kernel
theorem dX10_init_80 : decode cX10_init 80 = .ok (.aload_n 0, 1) := by decide +kernel
theorem dX10_init_81 : decode cX10_init 81 = .ok (.bipush 90, 2) := by decide +kernel
theorem dX10_init_83 : decode cX10_init 83 = .ok (.putfield 42, 3) := by decide +kernel
theorem dX10_init_86 : decode cX10_init 86 = .ok (.iconst 0, 1) := by decide +kernel
theorem dX10_init_87 : decode cX10_init 87 = .ok (.istore_n 1, 1) := by decide +kernel
theorem dX10_init_88 : decode cX10_init 88 = .ok (.iload_n 1, 1) := by decide +kernel
theorem dX10_init_89 : decode cX10_init 89 = .ok (.bipush 51, 2) := by decide +kernel
theorem dX10_init_91 : decode cX10_init 91 = .ok (.if_icmp .ge 81, 3) := by decide +kernel
theorem dX10_init_94 : decode cX10_init 94 = .ok (.aload_n 0, 1) := by decide +kernel
theorem dX10_init_95 : decode cX10_init 95 = .ok (.getfield 7, 3) := by decide +kernel
theorem dX10_init_98 : decode cX10_init 98 = .ok (.bipush 51, 2) := by decide +kernel
theorem dX10_init_100 : decode cX10_init 100 = .ok (.iload_n 1, 1) := by decide +kernel
theorem dX10_init_101 : decode cX10_init 101 = .ok (.imul, 1) := by decide +kernel
theorem dX10_init_102 : decode cX10_init 102 = .ok (.lconst 1, 1) := by decide +kernel
theorem dX10_init_103 : decode cX10_init 103 = .ok (.lastore, 1) := by decide +kernel
theorem dX10_init_104 : decode cX10_init 104 = .ok (.iconst 1, 1) := by decide +kernel
theorem dX10_init_105 : decode cX10_init 105 = .ok (.istore_n 2, 1) := by decide +kernel
theorem dX10_init_106 : decode cX10_init 106 = .ok (.iload_n 2, 1) := by decide +kernel
theorem dX10_init_107 : decode cX10_init 107 = .ok (.iload_n 1, 1) := by decide +kernel
theorem dX10_init_108 : decode cX10_init 108 = .ok (.if_icmp .gt 58, 3) := by decide +kernel
theorem dX10_init_111 : decode cX10_init 111 = .ok (.aload_n 0, 1) := by decide +kernel
theorem dX10_init_112 : decode cX10_init 112 = .ok (.getfield 7, 3) := by decide +kernel
theorem dX10_init_115 : decode cX10_init 115 = .ok (.bipush 51, 2) := by decide +kernel
theorem dX10_init_117 : decode cX10_init 117 = .ok (.iload_n 1, 1) := by decide +kernel
theorem dX10_init_118 : decode cX10_init 118 = .ok (.imul, 1) := by decide +kernel
theorem dX10_init_119 : decode cX10_init 119 = .ok (.iload_n 2, 1) := by decide +kernel
theorem dX10_init_120 : decode cX10_init 120 = .ok (.iadd, 1) := by decide +kernel
theorem dX10_init_121 : decode cX10_init 121 = .ok (.aload_n 0, 1) := by decide +kernel
theorem dX10_init_122 : decode cX10_init 122 = .ok (.getfield 7, 3) := by decide +kernel
theorem dX10_init_125 : decode cX10_init 125 = .ok (.bipush 51, 2) := by decide +kernel
theorem dX10_init_127 : decode cX10_init 127 = .ok (.iload_n 1, 1) := by decide +kernel
theorem dX10_init_128 : decode cX10_init 128 = .ok (.iconst 1, 1) := by decide +kernel
theorem dX10_init_129 : decode cX10_init 129 = .ok (.isub, 1) := by decide +kernel
theorem dX10_init_130 : decode cX10_init 130 = .ok (.imul, 1) := by decide +kernel
theorem dX10_init_131 : decode cX10_init 131 = .ok (.iload_n 2, 1) := by decide +kernel
theorem dX10_init_132 : decode cX10_init 132 = .ok (.iadd, 1) := by decide +kernel
theorem dX10_init_133 : decode cX10_init 133 = .ok (.iconst 1, 1) := by decide +kernel
theorem dX10_init_134 : decode cX10_init 134 = .ok (.isub, 1) := by decide +kernel
theorem dX10_init_135 : decode cX10_init 135 = .ok (.laload, 1) := by decide +kernel
theorem dX10_init_136 : decode cX10_init 136 = .ok (.iload_n 2, 1) := by decide +kernel
theorem dX10_init_137 : decode cX10_init 137 = .ok (.iload_n 1, 1) := by decide +kernel
theorem dX10_init_138 : decode cX10_init 138 = .ok (.if_icmp .ge 19, 3) := by decide +kernel
theorem dX10_init_141 : decode cX10_init 141 = .ok (.aload_n 0, 1) := by decide +kernel
theorem dX10_init_142 : decode cX10_init 142 = .ok (.getfield 7, 3) := by decide +kernel
theorem dX10_init_145 : decode cX10_init 145 = .ok (.bipush 51, 2) := by decide +kernel
theorem dX10_init_147 : decode cX10_init 147 = .ok (.iload_n 1, 1) := by decide +kernel
theorem dX10_init_148 : decode cX10_init 148 = .ok (.iconst 1, 1) := by decide +kernel
theorem dX10_init_149 : decode cX10_init 149 = .ok (.isub, 1) := by decide +kernel
theorem dX10_init_150 : decode cX10_init 150 = .ok (.imul, 1) := by decide +kernel
theorem dX10_init_151 : decode cX10_init 151 = .ok (.iload_n 2, 1) := by decide +kernel
theorem dX10_init_152 : decode cX10_init 152 = .ok (.iadd, 1) := by decide +kernel
theorem dX10_init_153 : decode cX10_init 153 = .ok (.laload, 1) := by decide +kernel
theorem dX10_init_154 : decode cX10_init 154 = .ok (.goto 4, 3) := by decide +kernel
theorem dX10_init_157 : decode cX10_init 157 = .ok (.lconst 0, 1) := by decide +kernel
theorem dX10_init_158 : decode cX10_init 158 = .ok (.ladd, 1) := by decide +kernel
theorem dX10_init_159 : decode cX10_init 159 = .ok (.lastore, 1) := by decide +kernel
theorem dX10_init_160 : decode cX10_init 160 = .ok (.iinc 2 1, 3) := by decide +kernel
theorem dX10_init_163 : decode cX10_init 163 = .ok (.goto (-57), 3) := by decide +kernel
theorem dX10_init_166 : decode cX10_init 166 = .ok (.iinc 1 1, 3) := by decide +kernel
theorem dX10_init_169 : decode cX10_init 169 = .ok (.goto (-81), 3) := by decide +kernel
theorem dX10_init_172 : decode cX10_init 172 = .ok (.iconst 0, 1) := by decide +kernel
theorem dX10_init_173 : decode cX10_init 173 = .ok (.istore_n 1, 1) := by decide +kernel
theorem dX10_init_174 : decode cX10_init 174 = .ok (.iload_n 1, 1) := by decide +kernel
theorem dX10_init_175 : decode cX10_init 175 = .ok (.bipush 8, 2) := by decide +kernel
theorem dX10_init_177 : decode cX10_init 177 = .ok (.if_icmp .ge 17, 3) := by decide +kernel
theorem dX10_init_180 : decode cX10_init 180 = .ok (.aload_n 0, 1) := by decide +kernel
theorem dX10_init_181 : decode cX10_init 181 = .ok (.getfield 17, 3) := by decide +kernel
theorem dX10_init_184 : decode cX10_init 184 = .ok (.iload_n 1, 1) := by decide +kernel
theorem dX10_init_185 : decode cX10_init 185 = .ok (.bipush 100, 2) := by decide +kernel
theorem dX10_init_187 : decode cX10_init 187 = .ok (.iastore, 1) := by decide +kernel
theorem dX10_init_188 : decode cX10_init 188 = .ok (.iinc 1 1, 3) := by decide +kernel
theorem dX10_init_191 : decode cX10_init 191 = .ok (.goto (-17), 3) := by decide +kernel
theorem dX10_init_194 : decode cX10_init 194 = .ok (.return_, 1) := by decide +kernel
theorem dX10_in_0 : decode cX10_in 0 = .ok (.iload_n 0, 1) := by decide +kernel
theorem dX10_in_1 : decode cX10_in 1 = .ok (.iload_n 1, 1) := by decide +kernel
theorem dX10_in_2 : decode cX10_in 2 = .ok (.if_icmp .lt 12, 3) := by decide +kernel
theorem dX10_in_5 : decode cX10_in 5 = .ok (.iload_n 0, 1) := by decide +kernel
theorem dX10_in_6 : decode cX10_in 6 = .ok (.iload_n 2, 1) := by decide +kernel
theorem dX10_in_7 : decode cX10_in 7 = .ok (.if_icmp .gt 7, 3) := by decide +kernel
theorem dX10_in_10 : decode cX10_in 10 = .ok (.iconst 1, 1) := by decide +kernel
theorem dX10_in_11 : decode cX10_in 11 = .ok (.goto 4, 3) := by decide +kernel
theorem dX10_in_14 : decode cX10_in 14 = .ok (.iconst 0, 1) := by decide +kernel
theorem dX10_in_15 : decode cX10_in 15 = .ok (.ireturn, 1) := by decide +kernel
set_option maxRecDepth 20000 in
theorem ggX10_isLand_X10_in : GoodIn wsX10_isLand wsX10_in := goodIn_r _ [4] (by decide +kernel) (by decide +kernel)
set_option maxRecDepth 20000 in
theorem gX10_isLand_X10_in : GoodIn wsX10_isLand (va_wsS RX10 48 yX10_in wsX10_in) := goodIn_app (goodIn_of _ (by decide +kernel)) ggX10_isLand_X10_in
theorem dX10_isLand_0 : decode cX10_isLand 0 = .ok (.iload_n 0, 1) := by decide +kernel
theorem dX10_isLand_1 : decode cX10_isLand 1 = .ok (.iconst 0, 1) := by decide +kernel
theorem dX10_isLand_2 : decode cX10_isLand 2 = .ok (.iconst 3, 1) := by decide +kernel
theorem dX10_isLand_3 : decode cX10_isLand 3 = .ok (.invokestatic 48, 3) := by decide +kernel
theorem dX10_isLand_6 : decode cX10_isLand 6 = .ok (.ireturn, 1) := by decide +kernel
theorem dX10_persons_0 : decode cX10_persons 0 = .ok (.iconst 0, 1) := by decide +kernel
theorem dX10_persons_1 : decode cX10_persons 1 = .ok (.istore_n 3, 1) := by decide +kernel
theorem dX10_persons_2 : decode cX10_persons 2 = .ok (.iconst 0, 1) := by decide +kernel
theorem dX10_persons_3 : decode cX10_persons 3 = .ok (.istore 4, 2) := by decide +kernel
theorem dX10_persons_5 : decode cX10_persons 5 = .ok (.iload 4, 2) := by decide +kernel
theorem dX10_persons_7 : decode cX10_persons 7 = .ok (.bipush 8, 2) := by decide +kernel
theorem dX10_persons_9 : decode cX10_persons 9 = .ok (.if_icmp .ge 38, 3) := by decide +kernel
theorem dX10_persons_12 : decode cX10_persons 12 = .ok (.iload_n 3, 1) := by decide +kernel
theorem dX10_persons_13 : decode cX10_persons 13 = .ok (.iload_n 2, 1) := by decide +kernel
theorem dX10_persons_14 : decode cX10_persons 14 = .ok (.iload 4, 2) := by decide +kernel
theorem dX10_persons_16 : decode cX10_persons 16 = .ok (.ishr, 1) := by decide +kernel
theorem dX10_persons_17 : decode cX10_persons 17 = .ok (.iconst 1, 1) := by decide +kernel
theorem dX10_persons_18 : decode cX10_persons 18 = .ok (.iand, 1) := by decide +kernel
theorem dX10_persons_19 : decode cX10_persons 19 = .ok (.iconst 1, 1) := by decide +kernel
theorem dX10_persons_20 : decode cX10_persons 20 = .ok (.if_icmp .ne 18, 3) := by decide +kernel
theorem dX10_persons_23 : decode cX10_persons 23 = .ok (.aload_n 0, 1) := by decide +kernel
theorem dX10_persons_24 : decode cX10_persons 24 = .ok (.getfield 13, 3) := by decide +kernel
theorem dX10_persons_27 : decode cX10_persons 27 = .ok (.bipush 8, 2) := by decide +kernel
theorem dX10_persons_29 : decode cX10_persons 29 = .ok (.iload_n 1, 1) := by decide +kernel
theorem dX10_persons_30 : decode cX10_persons 30 = .ok (.imul, 1) := by decide +kernel
theorem dX10_persons_31 : decode cX10_persons 31 = .ok (.iload 4, 2) := by decide +kernel
theorem dX10_persons_33 : decode cX10_persons 33 = .ok (.iadd, 1) := by decide +kernel
theorem dX10_persons_34 : decode cX10_persons 34 = .ok (.iaload, 1) := by decide +kernel
theorem dX10_persons_35 : decode cX10_persons 35 = .ok (.goto 4, 3) := by decide +kernel
theorem dX10_persons_38 : decode cX10_persons 38 = .ok (.iconst 0, 1) := by decide +kernel
theorem dX10_persons_39 : decode cX10_persons 39 = .ok (.iadd, 1) := by decide +kernel
theorem dX10_persons_40 : decode cX10_persons 40 = .ok (.istore_n 3, 1) := by decide +kernel
theorem dX10_persons_41 : decode cX10_persons 41 = .ok (.iinc 4 1, 3) := by decide +kernel
theorem dX10_persons_44 : decode cX10_persons 44 = .ok (.goto (-39), 3) := by decide +kernel
theorem dX10_persons_47 : decode cX10_persons 47 = .ok (.iload_n 3, 1) := by decide +kernel
theorem dX10_persons_48 : decode cX10_persons 48 = .ok (.ireturn, 1) := by decide +kernel
theorem dX10_gcd_0 : decode cX10_gcd 0 = .ok (.lload_n 0, 1) := by decide +kernel
theorem dX10_gcd_1 : decode cX10_gcd 1 = .ok (.lconst 0, 1) := by decide +kernel
theorem dX10_gcd_2 : decode cX10_gcd 2 = .ok (.lcmp, 1) := by decide +kernel
theorem dX10_gcd_3 : decode cX10_gcd 3 = .ok (.ifCond .ge 8, 3) := by decide +kernel
theorem dX10_gcd_6 : decode cX10_gcd 6 = .ok (.lload_n 0, 1) := by decide +kernel
theorem dX10_gcd_7 : decode cX10_gcd 7 = .ok (.lneg, 1) := by decide +kernel
theorem dX10_gcd_8 : decode cX10_gcd 8 = .ok (.goto 4, 3) := by decide +kernel
theorem dX10_gcd_11 : decode cX10_gcd 11 = .ok (.lload_n 0, 1) := by decide +kernel
theorem dX10_gcd_12 : decode cX10_gcd 12 = .ok (.lstore 4, 2) := by decide +kernel
theorem dX10_gcd_14 : decode cX10_gcd 14 = .ok (.lload_n 2, 1) := by decide +kernel
theorem dX10_gcd_15 : decode cX10_gcd 15 = .ok (.lstore 6, 2) := by decide +kernel
theorem dX10_gcd_17 : decode cX10_gcd 17 = .ok (.lload 6, 2) := by decide +kernel
theorem dX10_gcd_19 : decode cX10_gcd 19 = .ok (.lconst 0, 1) := by decide +kernel
theorem dX10_gcd_20 : decode cX10_gcd 20 = .ok (.lcmp, 1) := by decide +kernel
theorem dX10_gcd_21 : decode cX10_gcd 21 = .ok (.ifCond .eq 21, 3) := by decide +kernel
theorem dX10_gcd_24 : decode cX10_gcd 24 = .ok (.lload 4, 2) := by decide +kernel
theorem dX10_gcd_26 : decode cX10_gcd 26 = .ok (.lload 6, 2) := by decide +kernel
theorem dX10_gcd_28 : decode cX10_gcd 28 = .ok (.lrem, 1) := by decide +kernel
theorem dX10_gcd_29 : decode cX10_gcd 29 = .ok (.lstore 8, 2) := by decide +kernel
theorem dX10_gcd_31 : decode cX10_gcd 31 = .ok (.lload 6, 2) := by decide +kernel
theorem dX10_gcd_33 : decode cX10_gcd 33 = .ok (.lstore 4, 2) := by decide +kernel
theorem dX10_gcd_35 : decode cX10_gcd 35 = .ok (.lload 8, 2) := by decide +kernel
theorem dX10_gcd_37 : decode cX10_gcd 37 = .ok (.lstore 6, 2) := by decide +kernel
theorem dX10_gcd_39 : decode cX10_gcd 39 = .ok (.goto (-22), 3) := by decide +kernel
theorem dX10_gcd_42 : decode cX10_gcd 42 = .ok (.lload 4, 2) := by decide +kernel
theorem dX10_gcd_44 : decode cX10_gcd 44 = .ok (.lreturn, 1) := by decide +kernel
set_option maxRecDepth 20000 in
theorem ggX10_told_X10_gcd : GoodIn wsX10_told wsX10_gcd := goodIn_r _ [6] (by decide +kernel) (by decide +kernel)
set_option maxRecDepth 20000 in
theorem gX10_told_X10_gcd : GoodIn wsX10_told (va_wsS RX10 59 yX10_gcd wsX10_gcd) := goodIn_app (goodIn_of _ (by decide +kernel)) ggX10_told_X10_gcd
theorem dX10_told_0 : decode cX10_told 0 = .ok (.aload_n 0, 1) := by decide +kernel
theorem dX10_told_1 : decode cX10_told 1 = .ok (.getfield 52, 3) := by decide +kernel
theorem dX10_told_4 : decode cX10_told 4 = .ok (.aload_n 0, 1) := by decide +kernel
theorem dX10_told_5 : decode cX10_told 5 = .ok (.getfield 56, 3) := by decide +kernel
theorem dX10_told_8 : decode cX10_told 8 = .ok (.invokestatic 59, 3) := by decide +kernel
theorem dX10_told_11 : decode cX10_told 11 = .ok (.lstore_n 2, 1) := by decide +kernel
theorem dX10_told_12 : decode cX10_told 12 = .ok (.iload_n 1, 1) := by decide +kernel
theorem dX10_told_13 : decode cX10_told 13 = .ok (.ifCond .eq 12, 3) := by decide +kernel
theorem dX10_told_16 : decode cX10_told 16 = .ok (.aload_n 0, 1) := by decide +kernel
theorem dX10_told_17 : decode cX10_told 17 = .ok (.getfield 56, 3) := by decide +kernel
theorem dX10_told_20 : decode cX10_told 20 = .ok (.lload_n 2, 1) := by decide +kernel
theorem dX10_told_21 : decode cX10_told 21 = .ok (.ldiv, 1) := by decide +kernel
theorem dX10_told_22 : decode cX10_told 22 = .ok (.goto 9, 3) := by decide +kernel
theorem dX10_told_25 : decode cX10_told 25 = .ok (.aload_n 0, 1) := by decide +kernel
theorem dX10_told_26 : decode cX10_told 26 = .ok (.getfield 52, 3) := by decide +kernel
theorem dX10_told_29 : decode cX10_told 29 = .ok (.lload_n 2, 1) := by decide +kernel
theorem dX10_told_30 : decode cX10_told 30 = .ok (.ldiv, 1) := by decide +kernel
theorem dX10_told_31 : decode cX10_told 31 = .ok (.lreturn, 1) := by decide +kernel
set_option maxRecDepth 20000 in
theorem ggX10_land_X10_isLand : GoodIn wsX10_land wsX10_isLand := goodIn_r _ [6, 7, 8, 5, 9] (by decide +kernel) (by decide +kernel)
set_option maxRecDepth 20000 in
theorem gX10_land_X10_isLand : GoodIn wsX10_land (va_wsS RX10 63 yX10_isLand wsX10_isLand) := goodIn_app (goodIn_of _ (by decide +kernel)) ggX10_land_X10_isLand
set_option maxRecDepth 20000 in
theorem ggX10_land_X10_in : GoodIn wsX10_land wsX10_in := goodIn_r _ [9] (by decide +kernel) (by decide +kernel)
set_option maxRecDepth 20000 in
theorem gX10_land_X10_in : GoodIn wsX10_land (va_wsS RX10 48 yX10_in wsX10_in) := goodIn_app (goodIn_of _ (by decide +kernel)) ggX10_land_X10_in
set_option maxRecDepth 20000 in
theorem ggX10_land_X10_persons : GoodIn wsX10_land wsX10_persons := goodIn_r _ [13, 2, 14, 15, 16, 17, 18, 19, 20, 21, 22, 23, 24, 25, 26, 27, 28, 29, 30, 31, 32, 33, 34, 35, 36, 37] (by decide +kernel) (by decide +kernel)
set_option maxRecDepth 20000 in
theorem gX10_land_X10_persons : GoodIn wsX10_land (wsV RX10 67 RX10 yX10_persons wsX10_persons) := goodIn_app (goodIn_of _ (by decide +kernel)) ggX10_land_X10_persons
theorem dX10_land_0 : decode cX10_land 0 = .ok (.aload_n 0, 1) := by decide +kernel
theorem dX10_land_1 : decode cX10_land 1 = .ok (.iconst 0, 1) := by decide +kernel
theorem dX10_land_2 : decode cX10_land 2 = .ok (.putfield 45, 3) := by decide +kernel
theorem dX10_land_5 : decode cX10_land 5 = .ok (.iload_n 1, 1) := by decide +kernel
theorem dX10_land_6 : decode cX10_land 6 = .ok (.invokestatic 63, 3) := by decide +kernel
theorem dX10_land_9 : decode cX10_land 9 = .ok (.ifCond .eq 23, 3) := by decide +kernel
theorem dX10_land_12 : decode cX10_land 12 = .ok (.iload_n 2, 1) := by decide +kernel
theorem dX10_land_13 : decode cX10_land 13 = .ok (.iconst 0, 1) := by decide +kernel
theorem dX10_land_14 : decode cX10_land 14 = .ok (.bipush 7, 2) := by decide +kernel
theorem dX10_land_16 : decode cX10_land 16 = .ok (.invokestatic 48, 3) := by decide +kernel
theorem dX10_land_19 : decode cX10_land 19 = .ok (.ifCond .eq 13, 3) := by decide +kernel
theorem dX10_land_22 : decode cX10_land 22 = .ok (.iload_n 3, 1) := by decide +kernel
theorem dX10_land_23 : decode cX10_land 23 = .ok (.iconst 0, 1) := by decide +kernel
theorem dX10_land_24 : decode cX10_land 24 = .ok (.bipush 50, 2) := by decide +kernel
theorem dX10_land_26 : decode cX10_land 26 = .ok (.invokestatic 48, 3) := by decide +kernel
theorem dX10_land_29 : decode cX10_land 29 = .ok (.ifCond .ne 5, 3) := by decide +kernel
theorem dX10_land_32 : decode cX10_land 32 = .ok (.iconst (-1), 1) := by decide +kernel
theorem dX10_land_33 : decode cX10_land 33 = .ok (.ireturn, 1) := by decide +kernel
theorem dX10_land_34 : decode cX10_land 34 = .ok (.aload_n 0, 1) := by decide +kernel
theorem dX10_land_35 : decode cX10_land 35 = .ok (.getfield 13, 3) := by decide +kernel
theorem dX10_land_38 : decode cX10_land 38 = .ok (.bipush 8, 2) := by decide +kernel
theorem dX10_land_40 : decode cX10_land 40 = .ok (.iload_n 1, 1) := by decide +kernel
theorem dX10_land_41 : decode cX10_land 41 = .ok (.imul, 1) := by decide +kernel
theorem dX10_land_42 : decode cX10_land 42 = .ok (.iload_n 2, 1) := by decide +kernel
theorem dX10_land_43 : decode cX10_land 43 = .ok (.iadd, 1) := by decide +kernel
theorem dX10_land_44 : decode cX10_land 44 = .ok (.iaload, 1) := by decide +kernel
theorem dX10_land_45 : decode cX10_land 45 = .ok (.istore 4, 2) := by decide +kernel
theorem dX10_land_47 : decode cX10_land 47 = .ok (.aload_n 0, 1) := by decide +kernel
theorem dX10_land_48 : decode cX10_land 48 = .ok (.iload_n 1, 1) := by decide +kernel
theorem dX10_land_49 : decode cX10_land 49 = .ok (.sipush 255, 3) := by decide +kernel
theorem dX10_land_52 : decode cX10_land 52 = .ok (.invokevirtual 67, 3) := by decide +kernel
theorem dX10_land_55 : decode cX10_land 55 = .ok (.iload 4, 2) := by decide +kernel
theorem dX10_land_57 : decode cX10_land 57 = .ok (.isub, 1) := by decide +kernel
theorem dX10_land_58 : decode cX10_land 58 = .ok (.iload_n 3, 1) := by decide +kernel
theorem dX10_land_59 : decode cX10_land 59 = .ok (.iadd, 1) := by decide +kernel
theorem dX10_land_60 : decode cX10_land 60 = .ok (.bipush 50, 2) := by decide +kernel
theorem dX10_land_62 : decode cX10_land 62 = .ok (.if_icmp .le 6, 3) := by decide +kernel
theorem dX10_land_65 : decode cX10_land 65 = .ok (.bipush (-3), 2) := by decide +kernel
theorem dX10_land_67 : decode cX10_land 67 = .ok (.ireturn, 1) := by decide +kernel
theorem dX10_land_68 : decode cX10_land 68 = .ok (.aload_n 0, 1) := by decide +kernel
theorem dX10_land_69 : decode cX10_land 69 = .ok (.getfield 13, 3) := by decide +kernel
theorem dX10_land_72 : decode cX10_land 72 = .ok (.bipush 8, 2) := by decide +kernel
theorem dX10_land_74 : decode cX10_land 74 = .ok (.iload_n 1, 1) := by decide +kernel
theorem dX10_land_75 : decode cX10_land 75 = .ok (.imul, 1) := by decide +kernel
theorem dX10_land_76 : decode cX10_land 76 = .ok (.iload_n 2, 1) := by decide +kernel
theorem dX10_land_77 : decode cX10_land 77 = .ok (.iadd, 1) := by decide +kernel
theorem dX10_land_78 : decode cX10_land 78 = .ok (.iload_n 3, 1) := by decide +kernel
theorem dX10_land_79 : decode cX10_land 79 = .ok (.iastore, 1) := by decide +kernel
theorem dX10_land_80 : decode cX10_land 80 = .ok (.iload 4, 2) := by decide +kernel
theorem dX10_land_82 : decode cX10_land 82 = .ok (.ireturn, 1) := by decide +kernel
set_option maxRecDepth 20000 in
theorem ggX10_rate_X10_in : GoodIn wsX10_rate wsX10_in := goodIn_r _ [6] (by decide +kernel) (by decide +kernel)
set_option maxRecDepth 20000 in
theorem gX10_rate_X10_in : GoodIn wsX10_rate (va_wsS RX10 48 yX10_in wsX10_in) := goodIn_app (goodIn_of _ (by decide +kernel)) ggX10_rate_X10_in
theorem dX10_rate_0 : decode cX10_rate 0 = .ok (.aload_n 0, 1) := by decide +kernel
theorem dX10_rate_1 : decode cX10_rate 1 = .ok (.iconst 0, 1) := by decide +kernel
theorem dX10_rate_2 : decode cX10_rate 2 = .ok (.putfield 45, 3) := by decide +kernel
theorem dX10_rate_5 : decode cX10_rate 5 = .ok (.iload_n 1, 1) := by decide +kernel
theorem dX10_rate_6 : decode cX10_rate 6 = .ok (.iconst 0, 1) := by decide +kernel
theorem dX10_rate_7 : decode cX10_rate 7 = .ok (.bipush 7, 2) := by decide +kernel
theorem dX10_rate_9 : decode cX10_rate 9 = .ok (.invokestatic 48, 3) := by decide +kernel
theorem dX10_rate_12 : decode cX10_rate 12 = .ok (.ifCond .eq 13, 3) := by decide +kernel
theorem dX10_rate_15 : decode cX10_rate 15 = .ok (.iload_n 2, 1) := by decide +kernel
theorem dX10_rate_16 : decode cX10_rate 16 = .ok (.iconst 0, 1) := by decide +kernel
theorem dX10_rate_17 : decode cX10_rate 17 = .ok (.bipush 100, 2) := by decide +kernel
theorem dX10_rate_19 : decode cX10_rate 19 = .ok (.invokestatic 48, 3) := by decide +kernel
theorem dX10_rate_22 : decode cX10_rate 22 = .ok (.ifCond .ne 5, 3) := by decide +kernel
theorem dX10_rate_25 : decode cX10_rate 25 = .ok (.iconst (-1), 1) := by decide +kernel
theorem dX10_rate_26 : decode cX10_rate 26 = .ok (.ireturn, 1) := by decide +kernel
theorem dX10_rate_27 : decode cX10_rate 27 = .ok (.aload_n 0, 1) := by decide +kernel
theorem dX10_rate_28 : decode cX10_rate 28 = .ok (.getfield 17, 3) := by decide +kernel
theorem dX10_rate_31 : decode cX10_rate 31 = .ok (.iload_n 1, 1) := by decide +kernel
theorem dX10_rate_32 : decode cX10_rate 32 = .ok (.iaload, 1) := by decide +kernel
theorem dX10_rate_33 : decode cX10_rate 33 = .ok (.istore_n 3, 1) := by decide +kernel
theorem dX10_rate_34 : decode cX10_rate 34 = .ok (.aload_n 0, 1) := by decide +kernel
theorem dX10_rate_35 : decode cX10_rate 35 = .ok (.getfield 17, 3) := by decide +kernel
theorem dX10_rate_38 : decode cX10_rate 38 = .ok (.iload_n 1, 1) := by decide +kernel
theorem dX10_rate_39 : decode cX10_rate 39 = .ok (.iload_n 2, 1) := by decide +kernel
theorem dX10_rate_40 : decode cX10_rate 40 = .ok (.iastore, 1) := by decide +kernel
theorem dX10_rate_41 : decode cX10_rate 41 = .ok (.iload_n 3, 1) := by decide +kernel
theorem dX10_rate_42 : decode cX10_rate 42 = .ok (.ireturn, 1) := by decide +kernel
set_option maxRecDepth 20000 in
theorem ggX10_people_X10_isLand : GoodIn wsX10_people wsX10_isLand := goodIn_r _ [5, 6, 7, 4, 8] (by decide +kernel) (by decide +kernel)
set_option maxRecDepth 20000 in
theorem gX10_people_X10_isLand : GoodIn wsX10_people (va_wsS RX10 63 yX10_isLand wsX10_isLand) := goodIn_app (goodIn_of _ (by decide +kernel)) ggX10_people_X10_isLand
set_option maxRecDepth 20000 in
theorem ggX10_people_X10_in : GoodIn wsX10_people wsX10_in := goodIn_r _ [8] (by decide +kernel) (by decide +kernel)
set_option maxRecDepth 20000 in
theorem gX10_people_X10_in : GoodIn wsX10_people (va_wsS RX10 48 yX10_in wsX10_in) := goodIn_app (goodIn_of _ (by decide +kernel)) ggX10_people_X10_in
set_option maxRecDepth 20000 in
theorem ggX10_people_X10_persons : GoodIn wsX10_people wsX10_persons := goodIn_r _ [12, 13, 14, 15, 16, 17, 18, 19, 20, 21, 22, 23, 24, 25, 26, 27, 28, 29, 30, 31, 32, 33, 34, 35, 36, 37] (by decide +kernel) (by decide +kernel)
set_option maxRecDepth 20000 in
theorem gX10_people_X10_persons : GoodIn wsX10_people (wsV RX10 67 RX10 yX10_persons wsX10_persons) := goodIn_app (goodIn_of _ (by decide +kernel)) ggX10_people_X10_persons
theorem dX10_people_0 : decode cX10_people 0 = .ok (.aload_n 0, 1) := by decide +kernel
theorem dX10_people_1 : decode cX10_people 1 = .ok (.iconst 0, 1) := by decide +kernel
theorem dX10_people_2 : decode cX10_people 2 = .ok (.putfield 45, 3) := by decide +kernel
theorem dX10_people_5 : decode cX10_people 5 = .ok (.iload_n 1, 1) := by decide +kernel
theorem dX10_people_6 : decode cX10_people 6 = .ok (.invokestatic 63, 3) := by decide +kernel
theorem dX10_people_9 : decode cX10_people 9 = .ok (.ifCond .eq 12, 3) := by decide +kernel
theorem dX10_people_12 : decode cX10_people 12 = .ok (.iload_n 2, 1) := by decide +kernel
theorem dX10_people_13 : decode cX10_people 13 = .ok (.iconst 0, 1) := by decide +kernel
theorem dX10_people_14 : decode cX10_people 14 = .ok (.iconst 5, 1) := by decide +kernel
theorem dX10_people_15 : decode cX10_people 15 = .ok (.invokestatic 48, 3) := by decide +kernel
theorem dX10_people_18 : decode cX10_people 18 = .ok (.ifCond .ne 5, 3) := by decide +kernel
theorem dX10_people_21 : decode cX10_people 21 = .ok (.iconst (-1), 1) := by decide +kernel
theorem dX10_people_22 : decode cX10_people 22 = .ok (.ireturn, 1) := by decide +kernel
theorem dX10_people_23 : decode cX10_people 23 = .ok (.aload_n 0, 1) := by decide +kernel
theorem dX10_people_24 : decode cX10_people 24 = .ok (.iload_n 1, 1) := by decide +kernel
theorem dX10_people_25 : decode cX10_people 25 = .ok (.iload_n 2, 1) := by decide +kernel
theorem dX10_people_26 : decode cX10_people 26 = .ok (.ifCond .ne 9, 3) := by decide +kernel
theorem dX10_people_29 : decode cX10_people 29 = .ok (.sipush 255, 3) := by decide +kernel
theorem dX10_people_32 : decode cX10_people 32 = .ok (.goto 50, 3) := by decide +kernel
theorem dX10_people_35 : decode cX10_people 35 = .ok (.iload_n 2, 1) := by decide +kernel
theorem dX10_people_36 : decode cX10_people 36 = .ok (.iconst 1, 1) := by decide +kernel
theorem dX10_people_37 : decode cX10_people 37 = .ok (.if_icmp .ne 9, 3) := by decide +kernel
theorem dX10_people_40 : decode cX10_people 40 = .ok (.sipush 170, 3) := by decide +kernel
theorem dX10_people_43 : decode cX10_people 43 = .ok (.goto 39, 3) := by decide +kernel
theorem dX10_people_46 : decode cX10_people 46 = .ok (.iload_n 2, 1) := by decide +kernel
theorem dX10_people_47 : decode cX10_people 47 = .ok (.iconst 2, 1) := by decide +kernel
theorem dX10_people_48 : decode cX10_people 48 = .ok (.if_icmp .ne 9, 3) := by decide +kernel
theorem dX10_people_51 : decode cX10_people 51 = .ok (.sipush 240, 3) := by decide +kernel
theorem dX10_people_54 : decode cX10_people 54 = .ok (.goto 28, 3) := by decide +kernel
theorem dX10_people_57 : decode cX10_people 57 = .ok (.iload_n 2, 1) := by decide +kernel
theorem dX10_people_58 : decode cX10_people 58 = .ok (.iconst 3, 1) := by decide +kernel
theorem dX10_people_59 : decode cX10_people 59 = .ok (.if_icmp .ne 9, 3) := by decide +kernel
theorem dX10_people_62 : decode cX10_people 62 = .ok (.sipush 160, 3) := by decide +kernel
theorem dX10_people_65 : decode cX10_people 65 = .ok (.goto 17, 3) := by decide +kernel
theorem dX10_people_68 : decode cX10_people 68 = .ok (.iload_n 2, 1) := by decide +kernel
theorem dX10_people_69 : decode cX10_people 69 = .ok (.iconst 4, 1) := by decide +kernel
theorem dX10_people_70 : decode cX10_people 70 = .ok (.if_icmp .ne 9, 3) := by decide +kernel
theorem dX10_people_73 : decode cX10_people 73 = .ok (.sipush 204, 3) := by decide +kernel
theorem dX10_people_76 : decode cX10_people 76 = .ok (.goto 6, 3) := by decide +kernel
theorem dX10_people_79 : decode cX10_people 79 = .ok (.sipush 136, 3) := by decide +kernel
theorem dX10_people_82 : decode cX10_people 82 = .ok (.invokevirtual 67, 3) := by decide +kernel
theorem dX10_people_85 : decode cX10_people 85 = .ok (.ireturn, 1) := by decide +kernel
theorem dX10_back_0 : decode cX10_back 0 = .ok (.iconst 0, 1) := by decide +kernel
theorem dX10_back_1 : decode cX10_back 1 = .ok (.istore_n 3, 1) := by decide +kernel
theorem dX10_back_2 : decode cX10_back 2 = .ok (.iconst 4, 1) := by decide +kernel
theorem dX10_back_3 : decode cX10_back 3 = .ok (.istore 4, 2) := by decide +kernel
theorem dX10_back_5 : decode cX10_back 5 = .ok (.iload 4, 2) := by decide +kernel
theorem dX10_back_7 : decode cX10_back 7 = .ok (.bipush 8, 2) := by decide +kernel
theorem dX10_back_9 : decode cX10_back 9 = .ok (.if_icmp .ge 49, 3) := by decide +kernel
theorem dX10_back_12 : decode cX10_back 12 = .ok (.iload_n 3, 1) := by decide +kernel
theorem dX10_back_13 : decode cX10_back 13 = .ok (.iload_n 2, 1) := by decide +kernel
theorem dX10_back_14 : decode cX10_back 14 = .ok (.iload 4, 2) := by decide +kernel
theorem dX10_back_16 : decode cX10_back 16 = .ok (.ishr, 1) := by decide +kernel
theorem dX10_back_17 : decode cX10_back 17 = .ok (.iconst 1, 1) := by decide +kernel
theorem dX10_back_18 : decode cX10_back 18 = .ok (.iand, 1) := by decide +kernel
theorem dX10_back_19 : decode cX10_back 19 = .ok (.iconst 1, 1) := by decide +kernel
theorem dX10_back_20 : decode cX10_back 20 = .ok (.if_icmp .ne 29, 3) := by decide +kernel
theorem dX10_back_23 : decode cX10_back 23 = .ok (.aload_n 0, 1) := by decide +kernel
theorem dX10_back_24 : decode cX10_back 24 = .ok (.getfield 13, 3) := by decide +kernel
theorem dX10_back_27 : decode cX10_back 27 = .ok (.bipush 8, 2) := by decide +kernel
theorem dX10_back_29 : decode cX10_back 29 = .ok (.iload_n 1, 1) := by decide +kernel
theorem dX10_back_30 : decode cX10_back 30 = .ok (.imul, 1) := by decide +kernel
theorem dX10_back_31 : decode cX10_back 31 = .ok (.iload 4, 2) := by decide +kernel
theorem dX10_back_33 : decode cX10_back 33 = .ok (.iadd, 1) := by decide +kernel
theorem dX10_back_34 : decode cX10_back 34 = .ok (.iaload, 1) := by decide +kernel
theorem dX10_back_35 : decode cX10_back 35 = .ok (.aload_n 0, 1) := by decide +kernel
theorem dX10_back_36 : decode cX10_back 36 = .ok (.getfield 17, 3) := by decide +kernel
theorem dX10_back_39 : decode cX10_back 39 = .ok (.iload 4, 2) := by decide +kernel
theorem dX10_back_41 : decode cX10_back 41 = .ok (.iaload, 1) := by decide +kernel
theorem dX10_back_42 : decode cX10_back 42 = .ok (.imul, 1) := by decide +kernel
theorem dX10_back_43 : decode cX10_back 43 = .ok (.bipush 100, 2) := by decide +kernel
theorem dX10_back_45 : decode cX10_back 45 = .ok (.idiv, 1) := by decide +kernel
theorem dX10_back_46 : decode cX10_back 46 = .ok (.goto 4, 3) := by decide +kernel
theorem dX10_back_49 : decode cX10_back 49 = .ok (.iconst 0, 1) := by decide +kernel
theorem dX10_back_50 : decode cX10_back 50 = .ok (.iadd, 1) := by decide +kernel
theorem dX10_back_51 : decode cX10_back 51 = .ok (.istore_n 3, 1) := by decide +kernel
theorem dX10_back_52 : decode cX10_back 52 = .ok (.iinc 4 1, 3) := by decide +kernel
theorem dX10_back_55 : decode cX10_back 55 = .ok (.goto (-50), 3) := by decide +kernel
theorem dX10_back_58 : decode cX10_back 58 = .ok (.iload_n 3, 1) := by decide +kernel
theorem dX10_back_59 : decode cX10_back 59 = .ok (.ireturn, 1) := by decide +kernel
set_option maxRecDepth 20000 in
theorem ggX10_leans_X10_back : GoodIn wsX10_leans wsX10_back := goodIn_r _ [7, 8, 9, 14, 15, 16, 17, 18, 19, 20, 21, 22, 23, 24, 25, 26, 27, 28, 29, 30, 31, 32, 33, 34, 35, 36, 37] (by decide +kernel) (by decide +kernel)
set_option maxRecDepth 20000 in
theorem gX10_leans_X10_back : GoodIn wsX10_leans (wsV RX10 71 RX10 yX10_back wsX10_back) := goodIn_app (goodIn_of _ (by decide +kernel)) ggX10_leans_X10_back
set_option maxRecDepth 20000 in
theorem ggX10_leans_X10_persons : GoodIn wsX10_leans wsX10_persons := goodIn_r _ [13, 8, 14, 15, 16, 17, 18, 19, 20, 21, 22, 23, 24, 25, 26, 27, 28, 29, 30, 31, 32, 33, 34, 35, 36, 37] (by decide +kernel) (by decide +kernel)
set_option maxRecDepth 20000 in
theorem gX10_leans_X10_persons : GoodIn wsX10_leans (wsV RX10 67 RX10 yX10_persons wsX10_persons) := goodIn_app (goodIn_of _ (by decide +kernel)) ggX10_leans_X10_persons
theorem dX10_leans_0 : decode cX10_leans 0 = .ok (.aload_n 0, 1) := by decide +kernel
theorem dX10_leans_1 : decode cX10_leans 1 = .ok (.iload_n 1, 1) := by decide +kernel
theorem dX10_leans_2 : decode cX10_leans 2 = .ok (.sipush 255, 3) := by decide +kernel
theorem dX10_leans_5 : decode cX10_leans 5 = .ok (.invokevirtual 71, 3) := by decide +kernel
theorem dX10_leans_8 : decode cX10_leans 8 = .ok (.istore_n 2, 1) := by decide +kernel
theorem dX10_leans_9 : decode cX10_leans 9 = .ok (.aload_n 0, 1) := by decide +kernel
theorem dX10_leans_10 : decode cX10_leans 10 = .ok (.iload_n 1, 1) := by decide +kernel
theorem dX10_leans_11 : decode cX10_leans 11 = .ok (.sipush 255, 3) := by decide +kernel
theorem dX10_leans_14 : decode cX10_leans 14 = .ok (.invokevirtual 67, 3) := by decide +kernel
theorem dX10_leans_17 : decode cX10_leans 17 = .ok (.istore_n 3, 1) := by decide +kernel
theorem dX10_leans_18 : decode cX10_leans 18 = .ok (.aload_n 0, 1) := by decide +kernel
theorem dX10_leans_19 : decode cX10_leans 19 = .ok (.aload_n 0, 1) := by decide +kernel
theorem dX10_leans_20 : decode cX10_leans 20 = .ok (.iload_n 1, 1) := by decide +kernel
theorem dX10_leans_21 : decode cX10_leans 21 = .ok (.sipush 170, 3) := by decide +kernel
theorem dX10_leans_24 : decode cX10_leans 24 = .ok (.invokevirtual 71, 3) := by decide +kernel
theorem dX10_leans_27 : decode cX10_leans 27 = .ok (.i2l, 1) := by decide +kernel
theorem dX10_leans_28 : decode cX10_leans 28 = .ok (.iload_n 3, 1) := by decide +kernel
theorem dX10_leans_29 : decode cX10_leans 29 = .ok (.i2l, 1) := by decide +kernel
theorem dX10_leans_30 : decode cX10_leans 30 = .ok (.lmul, 1) := by decide +kernel
theorem dX10_leans_31 : decode cX10_leans 31 = .ok (.aload_n 0, 1) := by decide +kernel
theorem dX10_leans_32 : decode cX10_leans 32 = .ok (.iload_n 1, 1) := by decide +kernel
theorem dX10_leans_33 : decode cX10_leans 33 = .ok (.sipush 170, 3) := by decide +kernel
theorem dX10_leans_36 : decode cX10_leans 36 = .ok (.invokevirtual 67, 3) := by decide +kernel
theorem dX10_leans_39 : decode cX10_leans 39 = .ok (.i2l, 1) := by decide +kernel
theorem dX10_leans_40 : decode cX10_leans 40 = .ok (.iload_n 2, 1) := by decide +kernel
theorem dX10_leans_41 : decode cX10_leans 41 = .ok (.i2l, 1) := by decide +kernel
theorem dX10_leans_42 : decode cX10_leans 42 = .ok (.lmul, 1) := by decide +kernel
theorem dX10_leans_43 : decode cX10_leans 43 = .ok (.lsub, 1) := by decide +kernel
theorem dX10_leans_44 : decode cX10_leans 44 = .ok (.putfield 52, 3) := by decide +kernel
theorem dX10_leans_47 : decode cX10_leans 47 = .ok (.aload_n 0, 1) := by decide +kernel
theorem dX10_leans_48 : decode cX10_leans 48 = .ok (.iload_n 2, 1) := by decide +kernel
theorem dX10_leans_49 : decode cX10_leans 49 = .ok (.i2l, 1) := by decide +kernel
theorem dX10_leans_50 : decode cX10_leans 50 = .ok (.iload_n 3, 1) := by decide +kernel
theorem dX10_leans_51 : decode cX10_leans 51 = .ok (.i2l, 1) := by decide +kernel
theorem dX10_leans_52 : decode cX10_leans 52 = .ok (.lmul, 1) := by decide +kernel
theorem dX10_leans_53 : decode cX10_leans 53 = .ok (.putfield 56, 3) := by decide +kernel
theorem dX10_leans_56 : decode cX10_leans 56 = .ok (.iload_n 2, 1) := by decide +kernel
theorem dX10_leans_57 : decode cX10_leans 57 = .ok (.ifCond .le 7, 3) := by decide +kernel
theorem dX10_leans_60 : decode cX10_leans 60 = .ok (.iconst 1, 1) := by decide +kernel
theorem dX10_leans_61 : decode cX10_leans 61 = .ok (.goto 4, 3) := by decide +kernel
theorem dX10_leans_64 : decode cX10_leans 64 = .ok (.iconst 0, 1) := by decide +kernel
theorem dX10_leans_65 : decode cX10_leans 65 = .ok (.ireturn, 1) := by decide +kernel
set_option maxRecDepth 20000 in
theorem ggX10_posted_X10_isLand : GoodIn wsX10_posted wsX10_isLand := goodIn_r _ [8, 9, 10, 7, 11] (by decide +kernel) (by decide +kernel)
set_option maxRecDepth 20000 in
theorem gX10_posted_X10_isLand : GoodIn wsX10_posted (va_wsS RX10 63 yX10_isLand wsX10_isLand) := goodIn_app (goodIn_of _ (by decide +kernel)) ggX10_posted_X10_isLand
set_option maxRecDepth 20000 in
theorem ggX10_posted_X10_in : GoodIn wsX10_posted wsX10_in := goodIn_r _ [11] (by decide +kernel) (by decide +kernel)
set_option maxRecDepth 20000 in
theorem gX10_posted_X10_in : GoodIn wsX10_posted (va_wsS RX10 48 yX10_in wsX10_in) := goodIn_app (goodIn_of _ (by decide +kernel)) ggX10_posted_X10_in
set_option maxRecDepth 20000 in
theorem ggX10_posted_X10_back : GoodIn wsX10_posted wsX10_back := goodIn_r _ [15, 16, 17, 33, 34, 35, 36, 37, 38, 39, 40, 41, 42, 43, 44, 45, 46, 47, 48, 49, 50, 51, 52, 53, 54, 55, 56] (by decide +kernel) (by decide +kernel)
set_option maxRecDepth 20000 in
theorem gX10_posted_X10_back : GoodIn wsX10_posted (wsV RX10 71 RX10 yX10_back wsX10_back) := goodIn_app (goodIn_of _ (by decide +kernel)) ggX10_posted_X10_back
set_option maxRecDepth 20000 in
theorem ggX10_posted_X10_leans : GoodIn wsX10_posted wsX10_leans := goodIn_r _ [21, 3, 4, 12, 13, 14, 7, 15, 16, 17, 22, 23, 24, 25, 33, 34, 35, 36, 37, 38, 39, 40, 41, 42, 43, 44, 45, 46, 47, 48, 49, 50, 51, 52, 53, 54, 55, 56] (by decide +kernel) (by decide +kernel)
set_option maxRecDepth 20000 in
theorem gX10_posted_X10_leans : GoodIn wsX10_posted (wsV RX10 76 RX10 yX10_leans wsX10_leans) := goodIn_app (goodIn_of _ (by decide +kernel)) ggX10_posted_X10_leans
set_option maxRecDepth 20000 in
theorem ggX10_posted_X10_told : GoodIn wsX10_posted wsX10_told := goodIn_r _ [29, 3, 4, 30, 31, 7, 32, 33, 34, 35, 36, 37, 38, 39, 40, 41, 42, 43, 44, 45, 46, 47, 48, 49, 50, 51, 52, 53, 54, 55, 56] (by decide +kernel) (by decide +kernel)
set_option maxRecDepth 20000 in
theorem gX10_posted_X10_told : GoodIn wsX10_posted (wsV RX10 79 RX10 yX10_told wsX10_told) := goodIn_app (goodIn_of _ (by decide +kernel)) ggX10_posted_X10_told
theorem dX10_posted_0 : decode cX10_posted 0 = .ok (.aload_n 0, 1) := by decide +kernel
theorem dX10_posted_1 : decode cX10_posted 1 = .ok (.iconst 0, 1) := by decide +kernel
theorem dX10_posted_2 : decode cX10_posted 2 = .ok (.putfield 45, 3) := by decide +kernel
theorem dX10_posted_5 : decode cX10_posted 5 = .ok (.iload_n 1, 1) := by decide +kernel
theorem dX10_posted_6 : decode cX10_posted 6 = .ok (.invokestatic 63, 3) := by decide +kernel
theorem dX10_posted_9 : decode cX10_posted 9 = .ok (.ifCond .eq 12, 3) := by decide +kernel
theorem dX10_posted_12 : decode cX10_posted 12 = .ok (.iload_n 2, 1) := by decide +kernel
theorem dX10_posted_13 : decode cX10_posted 13 = .ok (.iconst 0, 1) := by decide +kernel
theorem dX10_posted_14 : decode cX10_posted 14 = .ok (.iconst 5, 1) := by decide +kernel
theorem dX10_posted_15 : decode cX10_posted 15 = .ok (.invokestatic 48, 3) := by decide +kernel
theorem dX10_posted_18 : decode cX10_posted 18 = .ok (.ifCond .ne 7, 3) := by decide +kernel
theorem dX10_posted_21 : decode cX10_posted 21 = .ok (.ldc2_w 74, 3) := by decide +kernel
theorem dX10_posted_24 : decode cX10_posted 24 = .ok (.lreturn, 1) := by decide +kernel
theorem dX10_posted_25 : decode cX10_posted 25 = .ok (.iload_n 2, 1) := by decide +kernel
theorem dX10_posted_26 : decode cX10_posted 26 = .ok (.iconst 2, 1) := by decide +kernel
theorem dX10_posted_27 : decode cX10_posted 27 = .ok (.if_icmp .ge 23, 3) := by decide +kernel
theorem dX10_posted_30 : decode cX10_posted 30 = .ok (.aload_n 0, 1) := by decide +kernel
theorem dX10_posted_31 : decode cX10_posted 31 = .ok (.iload_n 1, 1) := by decide +kernel
theorem dX10_posted_32 : decode cX10_posted 32 = .ok (.iload_n 2, 1) := by decide +kernel
theorem dX10_posted_33 : decode cX10_posted 33 = .ok (.ifCond .ne 9, 3) := by decide +kernel
theorem dX10_posted_36 : decode cX10_posted 36 = .ok (.sipush 255, 3) := by decide +kernel
theorem dX10_posted_39 : decode cX10_posted 39 = .ok (.goto 6, 3) := by decide +kernel
theorem dX10_posted_42 : decode cX10_posted 42 = .ok (.sipush 170, 3) := by decide +kernel
theorem dX10_posted_45 : decode cX10_posted 45 = .ok (.invokevirtual 71, 3) := by decide +kernel
theorem dX10_posted_48 : decode cX10_posted 48 = .ok (.i2l, 1) := by decide +kernel
theorem dX10_posted_49 : decode cX10_posted 49 = .ok (.lreturn, 1) := by decide +kernel
theorem dX10_posted_50 : decode cX10_posted 50 = .ok (.aload_n 0, 1) := by decide +kernel
theorem dX10_posted_51 : decode cX10_posted 51 = .ok (.iload_n 1, 1) := by decide +kernel
theorem dX10_posted_52 : decode cX10_posted 52 = .ok (.invokevirtual 76, 3) := by decide +kernel
theorem dX10_posted_55 : decode cX10_posted 55 = .ok (.ifCond .ne 7, 3) := by decide +kernel
theorem dX10_posted_58 : decode cX10_posted 58 = .ok (.ldc2_w 74, 3) := by decide +kernel
theorem dX10_posted_61 : decode cX10_posted 61 = .ok (.lreturn, 1) := by decide +kernel
theorem dX10_posted_62 : decode cX10_posted 62 = .ok (.iload_n 2, 1) := by decide +kernel
theorem dX10_posted_63 : decode cX10_posted 63 = .ok (.iconst 4, 1) := by decide +kernel
theorem dX10_posted_64 : decode cX10_posted 64 = .ok (.if_icmp .ge 29, 3) := by decide +kernel
theorem dX10_posted_67 : decode cX10_posted 67 = .ok (.aload_n 0, 1) := by decide +kernel
theorem dX10_posted_68 : decode cX10_posted 68 = .ok (.aload_n 0, 1) := by decide +kernel
theorem dX10_posted_69 : decode cX10_posted 69 = .ok (.iload_n 1, 1) := by decide +kernel
theorem dX10_posted_70 : decode cX10_posted 70 = .ok (.sipush 170, 3) := by decide +kernel
theorem dX10_posted_73 : decode cX10_posted 73 = .ok (.invokevirtual 71, 3) := by decide +kernel
theorem dX10_posted_76 : decode cX10_posted 76 = .ok (.i2l, 1) := by decide +kernel
theorem dX10_posted_77 : decode cX10_posted 77 = .ok (.putfield 52, 3) := by decide +kernel
theorem dX10_posted_80 : decode cX10_posted 80 = .ok (.aload_n 0, 1) := by decide +kernel
theorem dX10_posted_81 : decode cX10_posted 81 = .ok (.aload_n 0, 1) := by decide +kernel
theorem dX10_posted_82 : decode cX10_posted 82 = .ok (.iload_n 1, 1) := by decide +kernel
theorem dX10_posted_83 : decode cX10_posted 83 = .ok (.sipush 255, 3) := by decide +kernel
theorem dX10_posted_86 : decode cX10_posted 86 = .ok (.invokevirtual 71, 3) := by decide +kernel
theorem dX10_posted_89 : decode cX10_posted 89 = .ok (.i2l, 1) := by decide +kernel
theorem dX10_posted_90 : decode cX10_posted 90 = .ok (.putfield 56, 3) := by decide +kernel
theorem dX10_posted_93 : decode cX10_posted 93 = .ok (.aload_n 0, 1) := by decide +kernel
theorem dX10_posted_94 : decode cX10_posted 94 = .ok (.iload_n 2, 1) := by decide +kernel
theorem dX10_posted_95 : decode cX10_posted 95 = .ok (.iconst 2, 1) := by decide +kernel
theorem dX10_posted_96 : decode cX10_posted 96 = .ok (.irem, 1) := by decide +kernel
theorem dX10_posted_97 : decode cX10_posted 97 = .ok (.iconst 1, 1) := by decide +kernel
theorem dX10_posted_98 : decode cX10_posted 98 = .ok (.if_icmp .ne 7, 3) := by decide +kernel
theorem dX10_posted_101 : decode cX10_posted 101 = .ok (.iconst 1, 1) := by decide +kernel
theorem dX10_posted_102 : decode cX10_posted 102 = .ok (.goto 4, 3) := by decide +kernel
theorem dX10_posted_105 : decode cX10_posted 105 = .ok (.iconst 0, 1) := by decide +kernel
theorem dX10_posted_106 : decode cX10_posted 106 = .ok (.invokevirtual 79, 3) := by decide +kernel
theorem dX10_posted_109 : decode cX10_posted 109 = .ok (.lreturn, 1) := by decide +kernel
set_option maxRecDepth 20000 in
theorem ggX10_type_X10_in : GoodIn wsX10_type wsX10_in := goodIn_r _ [8] (by decide +kernel) (by decide +kernel)
set_option maxRecDepth 20000 in
theorem gX10_type_X10_in : GoodIn wsX10_type (va_wsS RX10 48 yX10_in wsX10_in) := goodIn_app (goodIn_of _ (by decide +kernel)) ggX10_type_X10_in
theorem dX10_type_0 : decode cX10_type 0 = .ok (.aload_n 0, 1) := by decide +kernel
theorem dX10_type_1 : decode cX10_type 1 = .ok (.iconst 0, 1) := by decide +kernel
theorem dX10_type_2 : decode cX10_type 2 = .ok (.putfield 45, 3) := by decide +kernel
theorem dX10_type_5 : decode cX10_type 5 = .ok (.iload_n 3, 1) := by decide +kernel
theorem dX10_type_6 : decode cX10_type 6 = .ok (.iconst 1, 1) := by decide +kernel
theorem dX10_type_7 : decode cX10_type 7 = .ok (.bipush 8, 2) := by decide +kernel
theorem dX10_type_9 : decode cX10_type 9 = .ok (.invokestatic 48, 3) := by decide +kernel
theorem dX10_type_12 : decode cX10_type 12 = .ok (.ifCond .ne 5, 3) := by decide +kernel
theorem dX10_type_15 : decode cX10_type 15 = .ok (.iconst (-1), 1) := by decide +kernel
theorem dX10_type_16 : decode cX10_type 16 = .ok (.ireturn, 1) := by decide +kernel
theorem dX10_type_17 : decode cX10_type 17 = .ok (.aload_n 0, 1) := by decide +kernel
theorem dX10_type_18 : decode cX10_type 18 = .ok (.getfield 83, 3) := by decide +kernel
theorem dX10_type_21 : decode cX10_type 21 = .ok (.iload_n 3, 1) := by decide +kernel
theorem dX10_type_22 : decode cX10_type 22 = .ok (.iadd, 1) := by decide +kernel
theorem dX10_type_23 : decode cX10_type 23 = .ok (.sipush 300, 3) := by decide +kernel
theorem dX10_type_26 : decode cX10_type 26 = .ok (.if_icmp .le 6, 3) := by decide +kernel
theorem dX10_type_29 : decode cX10_type 29 = .ok (.bipush (-3), 2) := by decide +kernel
theorem dX10_type_31 : decode cX10_type 31 = .ok (.ireturn, 1) := by decide +kernel
theorem dX10_type_32 : decode cX10_type 32 = .ok (.iload_n 3, 1) := by decide +kernel
theorem dX10_type_33 : decode cX10_type 33 = .ok (.iconst 1, 1) := by decide +kernel
theorem dX10_type_34 : decode cX10_type 34 = .ok (.isub, 1) := by decide +kernel
theorem dX10_type_35 : decode cX10_type 35 = .ok (.istore 4, 2) := by decide +kernel
theorem dX10_type_37 : decode cX10_type 37 = .ok (.iload 4, 2) := by decide +kernel
theorem dX10_type_39 : decode cX10_type 39 = .ok (.ifCond .lt 40, 3) := by decide +kernel
theorem dX10_type_42 : decode cX10_type 42 = .ok (.aload_n 0, 1) := by decide +kernel
theorem dX10_type_43 : decode cX10_type 43 = .ok (.getfield 20, 3) := by decide +kernel
theorem dX10_type_46 : decode cX10_type 46 = .ok (.aload_n 0, 1) := by decide +kernel
theorem dX10_type_47 : decode cX10_type 47 = .ok (.getfield 83, 3) := by decide +kernel
theorem dX10_type_50 : decode cX10_type 50 = .ok (.lload_n 1, 1) := by decide +kernel
theorem dX10_type_51 : decode cX10_type 51 = .ok (.bipush 8, 2) := by decide +kernel
theorem dX10_type_53 : decode cX10_type 53 = .ok (.iload 4, 2) := by decide +kernel
theorem dX10_type_55 : decode cX10_type 55 = .ok (.imul, 1) := by decide +kernel
theorem dX10_type_56 : decode cX10_type 56 = .ok (.lshr, 1) := by decide +kernel
theorem dX10_type_57 : decode cX10_type 57 = .ok (.ldc2_w 86, 3) := by decide +kernel
theorem dX10_type_60 : decode cX10_type 60 = .ok (.land, 1) := by decide +kernel
theorem dX10_type_61 : decode cX10_type 61 = .ok (.l2i, 1) := by decide +kernel
theorem dX10_type_62 : decode cX10_type 62 = .ok (.iastore, 1) := by decide +kernel
theorem dX10_type_63 : decode cX10_type 63 = .ok (.aload_n 0, 1) := by decide +kernel
theorem dX10_type_64 : decode cX10_type 64 = .ok (.dup, 1) := by decide +kernel
theorem dX10_type_65 : decode cX10_type 65 = .ok (.getfield 83, 3) := by decide +kernel
theorem dX10_type_68 : decode cX10_type 68 = .ok (.iconst 1, 1) := by decide +kernel
theorem dX10_type_69 : decode cX10_type 69 = .ok (.iadd, 1) := by decide +kernel
theorem dX10_type_70 : decode cX10_type 70 = .ok (.putfield 83, 3) := by decide +kernel
theorem dX10_type_73 : decode cX10_type 73 = .ok (.iinc 4 (-1), 3) := by decide +kernel
theorem dX10_type_76 : decode cX10_type 76 = .ok (.goto (-39), 3) := by decide +kernel
theorem dX10_type_79 : decode cX10_type 79 = .ok (.aload_n 0, 1) := by decide +kernel
theorem dX10_type_80 : decode cX10_type 80 = .ok (.getfield 83, 3) := by decide +kernel
theorem dX10_type_83 : decode cX10_type 83 = .ok (.ireturn, 1) := by decide +kernel
theorem dX10_clear_0 : decode cX10_clear 0 = .ok (.aload_n 0, 1) := by decide +kernel
theorem dX10_clear_1 : decode cX10_clear 1 = .ok (.iconst 0, 1) := by decide +kernel
theorem dX10_clear_2 : decode cX10_clear 2 = .ok (.putfield 45, 3) := by decide +kernel
theorem dX10_clear_5 : decode cX10_clear 5 = .ok (.aload_n 0, 1) := by decide +kernel
theorem dX10_clear_6 : decode cX10_clear 6 = .ok (.getfield 83, 3) := by decide +kernel
theorem dX10_clear_9 : decode cX10_clear 9 = .ok (.istore_n 1, 1) := by decide +kernel
theorem dX10_clear_10 : decode cX10_clear 10 = .ok (.aload_n 0, 1) := by decide +kernel
theorem dX10_clear_11 : decode cX10_clear 11 = .ok (.iconst 0, 1) := by decide +kernel
theorem dX10_clear_12 : decode cX10_clear 12 = .ok (.putfield 83, 3) := by decide +kernel
theorem dX10_clear_15 : decode cX10_clear 15 = .ok (.iload_n 1, 1) := by decide +kernel
theorem dX10_clear_16 : decode cX10_clear 16 = .ok (.ireturn, 1) := by decide +kernel
theorem dX10_byteAt_0 : decode cX10_byteAt 0 = .ok (.iload_n 1, 1) := by decide +kernel
theorem dX10_byteAt_1 : decode cX10_byteAt 1 = .ok (.aload_n 0, 1) := by decide +kernel
theorem dX10_byteAt_2 : decode cX10_byteAt 2 = .ok (.getfield 83, 3) := by decide +kernel
theorem dX10_byteAt_5 : decode cX10_byteAt 5 = .ok (.if_icmp .ge 12, 3) := by decide +kernel
theorem dX10_byteAt_8 : decode cX10_byteAt 8 = .ok (.aload_n 0, 1) := by decide +kernel
theorem dX10_byteAt_9 : decode cX10_byteAt 9 = .ok (.getfield 20, 3) := by decide +kernel
theorem dX10_byteAt_12 : decode cX10_byteAt 12 = .ok (.iload_n 1, 1) := by decide +kernel
theorem dX10_byteAt_13 : decode cX10_byteAt 13 = .ok (.iaload, 1) := by decide +kernel
theorem dX10_byteAt_14 : decode cX10_byteAt 14 = .ok (.goto 4, 3) := by decide +kernel
theorem dX10_byteAt_17 : decode cX10_byteAt 17 = .ok (.iconst (-1), 1) := by decide +kernel
theorem dX10_byteAt_18 : decode cX10_byteAt 18 = .ok (.ireturn, 1) := by decide +kernel
theorem dX10_lets_0 : decode cX10_lets 0 = .ok (.iload_n 1, 1) := by decide +kernel
theorem dX10_lets_1 : decode cX10_lets 1 = .ok (.bipush 120, 2) := by decide +kernel
theorem dX10_lets_3 : decode cX10_lets 3 = .ok (.if_icmp .ne 7, 3) := by decide +kernel
theorem dX10_lets_6 : decode cX10_lets 6 = .ok (.sipush 255, 3) := by decide +kernel
theorem dX10_lets_9 : decode cX10_lets 9 = .ok (.ireturn, 1) := by decide +kernel
theorem dX10_lets_10 : decode cX10_lets 10 = .ok (.iload_n 0, 1) := by decide +kernel
theorem dX10_lets_11 : decode cX10_lets 11 = .ok (.ifCond .ne 28, 3) := by decide +kernel
theorem dX10_lets_14 : decode cX10_lets 14 = .ok (.iload_n 1, 1) := by decide +kernel
theorem dX10_lets_15 : decode cX10_lets 15 = .ok (.bipush 114, 2) := by decide +kernel
theorem dX10_lets_17 : decode cX10_lets 17 = .ok (.if_icmp .ne 9, 3) := by decide +kernel
theorem dX10_lets_20 : decode cX10_lets 20 = .ok (.sipush 204, 3) := by decide +kernel
theorem dX10_lets_23 : decode cX10_lets 23 = .ok (.goto 15, 3) := by decide +kernel
theorem dX10_lets_26 : decode cX10_lets 26 = .ok (.iload_n 1, 1) := by decide +kernel
theorem dX10_lets_27 : decode cX10_lets 27 = .ok (.bipush 112, 2) := by decide +kernel
theorem dX10_lets_29 : decode cX10_lets 29 = .ok (.if_icmp .ne 8, 3) := by decide +kernel
theorem dX10_lets_32 : decode cX10_lets 32 = .ok (.bipush 51, 2) := by decide +kernel
theorem dX10_lets_34 : decode cX10_lets 34 = .ok (.goto 4, 3) := by decide +kernel
theorem dX10_lets_37 : decode cX10_lets 37 = .ok (.iconst (-1), 1) := by decide +kernel
theorem dX10_lets_38 : decode cX10_lets 38 = .ok (.ireturn, 1) := by decide +kernel
theorem dX10_lets_39 : decode cX10_lets 39 = .ok (.iload_n 0, 1) := by decide +kernel
theorem dX10_lets_40 : decode cX10_lets 40 = .ok (.iconst 1, 1) := by decide +kernel
theorem dX10_lets_41 : decode cX10_lets 41 = .ok (.if_icmp .ne 28, 3) := by decide +kernel
theorem dX10_lets_44 : decode cX10_lets 44 = .ok (.iload_n 1, 1) := by decide +kernel
theorem dX10_lets_45 : decode cX10_lets 45 = .ok (.bipush 108, 2) := by decide +kernel
theorem dX10_lets_47 : decode cX10_lets 47 = .ok (.if_icmp .ne 9, 3) := by decide +kernel
theorem dX10_lets_50 : decode cX10_lets 50 = .ok (.sipush 240, 3) := by decide +kernel
theorem dX10_lets_53 : decode cX10_lets 53 = .ok (.goto 15, 3) := by decide +kernel
theorem dX10_lets_56 : decode cX10_lets 56 = .ok (.iload_n 1, 1) := by decide +kernel
theorem dX10_lets_57 : decode cX10_lets 57 = .ok (.bipush 117, 2) := by decide +kernel
theorem dX10_lets_59 : decode cX10_lets 59 = .ok (.if_icmp .ne 8, 3) := by decide +kernel
theorem dX10_lets_62 : decode cX10_lets 62 = .ok (.bipush 15, 2) := by decide +kernel
theorem dX10_lets_64 : decode cX10_lets 64 = .ok (.goto 4, 3) := by decide +kernel
theorem dX10_lets_67 : decode cX10_lets 67 = .ok (.iconst (-1), 1) := by decide +kernel
theorem dX10_lets_68 : decode cX10_lets 68 = .ok (.ireturn, 1) := by decide +kernel
theorem dX10_lets_69 : decode cX10_lets 69 = .ok (.iload_n 1, 1) := by decide +kernel
theorem dX10_lets_70 : decode cX10_lets 70 = .ok (.bipush 121, 2) := by decide +kernel
theorem dX10_lets_72 : decode cX10_lets 72 = .ok (.if_icmp .ne 9, 3) := by decide +kernel
theorem dX10_lets_75 : decode cX10_lets 75 = .ok (.sipush 170, 3) := by decide +kernel
theorem dX10_lets_78 : decode cX10_lets 78 = .ok (.goto 15, 3) := by decide +kernel
theorem dX10_lets_81 : decode cX10_lets 81 = .ok (.iload_n 1, 1) := by decide +kernel
theorem dX10_lets_82 : decode cX10_lets 82 = .ok (.bipush 110, 2) := by decide +kernel
theorem dX10_lets_84 : decode cX10_lets 84 = .ok (.if_icmp .ne 8, 3) := by decide +kernel
theorem dX10_lets_87 : decode cX10_lets 87 = .ok (.bipush 85, 2) := by decide +kernel
theorem dX10_lets_89 : decode cX10_lets 89 = .ok (.goto 4, 3) := by decide +kernel
theorem dX10_lets_92 : decode cX10_lets 92 = .ok (.iconst (-1), 1) := by decide +kernel
theorem dX10_lets_93 : decode cX10_lets 93 = .ok (.ireturn, 1) := by decide +kernel
set_option maxRecDepth 20000 in
theorem ggX10_words_X10_byteAt : GoodIn wsX10_words wsX10_byteAt := goodIn_r _ [9, 10, 1, 14, 15, 16, 17, 18, 19, 20, 21, 22, 23, 24, 25, 26, 27, 28, 29, 30, 31, 32, 33, 34, 35, 36, 37] (by decide +kernel) (by decide +kernel)
set_option maxRecDepth 20000 in
theorem gX10_words_X10_byteAt : GoodIn wsX10_words (wsV RX10 91 RX10 yX10_byteAt wsX10_byteAt) := goodIn_app (goodIn_of _ (by decide +kernel)) ggX10_words_X10_byteAt
set_option maxRecDepth 20000 in
theorem ggX10_words_X10_lets : GoodIn wsX10_words wsX10_lets := goodIn_r _ [13] (by decide +kernel) (by decide +kernel)
set_option maxRecDepth 20000 in
theorem gX10_words_X10_lets : GoodIn wsX10_words (va_wsS RX10 98 yX10_lets wsX10_lets) := goodIn_app (goodIn_of _ (by decide +kernel)) ggX10_words_X10_lets
theorem dX10_words_0 : decode cX10_words 0 = .ok (.aload_n 0, 1) := by decide +kernel
theorem dX10_words_1 : decode cX10_words 1 = .ok (.getfield 20, 3) := by decide +kernel
theorem dX10_words_4 : decode cX10_words 4 = .ok (.aload_n 0, 1) := by decide +kernel
theorem dX10_words_5 : decode cX10_words 5 = .ok (.getfield 88, 3) := by decide +kernel
theorem dX10_words_8 : decode cX10_words 8 = .ok (.iaload, 1) := by decide +kernel
theorem dX10_words_9 : decode cX10_words 9 = .ok (.istore_n 2, 1) := by decide +kernel
theorem dX10_words_10 : decode cX10_words 10 = .ok (.aload_n 0, 1) := by decide +kernel
theorem dX10_words_11 : decode cX10_words 11 = .ok (.aload_n 0, 1) := by decide +kernel
theorem dX10_words_12 : decode cX10_words 12 = .ok (.getfield 88, 3) := by decide +kernel
theorem dX10_words_15 : decode cX10_words 15 = .ok (.iconst 1, 1) := by decide +kernel
theorem dX10_words_16 : decode cX10_words 16 = .ok (.iadd, 1) := by decide +kernel
theorem dX10_words_17 : decode cX10_words 17 = .ok (.invokevirtual 91, 3) := by decide +kernel
theorem dX10_words_20 : decode cX10_words 20 = .ok (.istore_n 3, 1) := by decide +kernel
theorem dX10_words_21 : decode cX10_words 21 = .ok (.aload_n 0, 1) := by decide +kernel
theorem dX10_words_22 : decode cX10_words 22 = .ok (.aload_n 0, 1) := by decide +kernel
theorem dX10_words_23 : decode cX10_words 23 = .ok (.getfield 88, 3) := by decide +kernel
theorem dX10_words_26 : decode cX10_words 26 = .ok (.iconst 2, 1) := by decide +kernel
theorem dX10_words_27 : decode cX10_words 27 = .ok (.iadd, 1) := by decide +kernel
theorem dX10_words_28 : decode cX10_words 28 = .ok (.invokevirtual 91, 3) := by decide +kernel
theorem dX10_words_31 : decode cX10_words 31 = .ok (.istore 4, 2) := by decide +kernel
theorem dX10_words_33 : decode cX10_words 33 = .ok (.iload_n 1, 1) := by decide +kernel
theorem dX10_words_34 : decode cX10_words 34 = .ok (.iconst 4, 1) := by decide +kernel
theorem dX10_words_35 : decode cX10_words 35 = .ok (.if_icmp .ne 46, 3) := by decide +kernel
theorem dX10_words_38 : decode cX10_words 38 = .ok (.iload_n 2, 1) := by decide +kernel
theorem dX10_words_39 : decode cX10_words 39 = .ok (.bipush 102, 2) := by decide +kernel
theorem dX10_words_41 : decode cX10_words 41 = .ok (.if_icmp .ne 40, 3) := by decide +kernel
theorem dX10_words_44 : decode cX10_words 44 = .ok (.iload_n 3, 1) := by decide +kernel
theorem dX10_words_45 : decode cX10_words 45 = .ok (.bipush 105, 2) := by decide +kernel
theorem dX10_words_47 : decode cX10_words 47 = .ok (.if_icmp .ne 34, 3) := by decide +kernel
theorem dX10_words_50 : decode cX10_words 50 = .ok (.iload 4, 2) := by decide +kernel
theorem dX10_words_52 : decode cX10_words 52 = .ok (.bipush 110, 2) := by decide +kernel
theorem dX10_words_54 : decode cX10_words 54 = .ok (.if_icmp .ne 27, 3) := by decide +kernel
theorem dX10_words_57 : decode cX10_words 57 = .ok (.aload_n 0, 1) := by decide +kernel
theorem dX10_words_58 : decode cX10_words 58 = .ok (.getfield 20, 3) := by decide +kernel
theorem dX10_words_61 : decode cX10_words 61 = .ok (.aload_n 0, 1) := by decide +kernel
theorem dX10_words_62 : decode cX10_words 62 = .ok (.getfield 88, 3) := by decide +kernel
theorem dX10_words_65 : decode cX10_words 65 = .ok (.iconst 3, 1) := by decide +kernel
theorem dX10_words_66 : decode cX10_words 66 = .ok (.iadd, 1) := by decide +kernel
theorem dX10_words_67 : decode cX10_words 67 = .ok (.iaload, 1) := by decide +kernel
theorem dX10_words_68 : decode cX10_words 68 = .ok (.bipush 100, 2) := by decide +kernel
theorem dX10_words_70 : decode cX10_words 70 = .ok (.if_icmp .ne 11, 3) := by decide +kernel
theorem dX10_words_73 : decode cX10_words 73 = .ok (.aload_n 0, 1) := by decide +kernel
theorem dX10_words_74 : decode cX10_words 74 = .ok (.iconst 1, 1) := by decide +kernel
theorem dX10_words_75 : decode cX10_words 75 = .ok (.putfield 95, 3) := by decide +kernel
theorem dX10_words_78 : decode cX10_words 78 = .ok (.goto 118, 3) := by decide +kernel
theorem dX10_words_81 : decode cX10_words 81 = .ok (.iload_n 1, 1) := by decide +kernel
theorem dX10_words_82 : decode cX10_words 82 = .ok (.iconst 3, 1) := by decide +kernel
theorem dX10_words_83 : decode cX10_words 83 = .ok (.if_icmp .ne 30, 3) := by decide +kernel
theorem dX10_words_86 : decode cX10_words 86 = .ok (.iload_n 2, 1) := by decide +kernel
theorem dX10_words_87 : decode cX10_words 87 = .ok (.bipush 97, 2) := by decide +kernel
theorem dX10_words_89 : decode cX10_words 89 = .ok (.if_icmp .ne 24, 3) := by decide +kernel
theorem dX10_words_92 : decode cX10_words 92 = .ok (.iload_n 3, 1) := by decide +kernel
theorem dX10_words_93 : decode cX10_words 93 = .ok (.bipush 108, 2) := by decide +kernel
theorem dX10_words_95 : decode cX10_words 95 = .ok (.if_icmp .ne 18, 3) := by decide +kernel
theorem dX10_words_98 : decode cX10_words 98 = .ok (.iload 4, 2) := by decide +kernel
theorem dX10_words_100 : decode cX10_words 100 = .ok (.bipush 108, 2) := by decide +kernel
theorem dX10_words_102 : decode cX10_words 102 = .ok (.if_icmp .ne 11, 3) := by decide +kernel
theorem dX10_words_105 : decode cX10_words 105 = .ok (.aload_n 0, 1) := by decide +kernel
theorem dX10_words_106 : decode cX10_words 106 = .ok (.iconst 2, 1) := by decide +kernel
theorem dX10_words_107 : decode cX10_words 107 = .ok (.putfield 95, 3) := by decide +kernel
theorem dX10_words_110 : decode cX10_words 110 = .ok (.goto 86, 3) := by decide +kernel
theorem dX10_words_113 : decode cX10_words 113 = .ok (.iload_n 1, 1) := by decide +kernel
theorem dX10_words_114 : decode cX10_words 114 = .ok (.iconst 3, 1) := by decide +kernel
theorem dX10_words_115 : decode cX10_words 115 = .ok (.if_icmp .ne 32, 3) := by decide +kernel
