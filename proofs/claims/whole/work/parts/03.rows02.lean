theorem dX6_readWord_36 : decode cX6_readWord 36 = .ok (.goto (-36), 3) := by decide +kernel
theorem dX6_readWord_39 : decode cX6_readWord 39 = .ok (.aload_n 0, 1) := by decide +kernel
theorem dX6_readWord_40 : decode cX6_readWord 40 = .ok (.ldc 56, 2) := by decide +kernel
theorem dX6_readWord_42 : decode cX6_readWord 42 = .ok (.invokevirtual 58, 3) := by decide +kernel
theorem dX6_readWord_45 : decode cX6_readWord 45 = .ok (.ifCond .eq 13, 3) := by decide +kernel
theorem dX6_readWord_48 : decode cX6_readWord 48 = .ok (.aload_n 0, 1) := by decide +kernel
theorem dX6_readWord_49 : decode cX6_readWord 49 = .ok (.getstatic 62, 3) := by decide +kernel
theorem dX6_readWord_52 : decode cX6_readWord 52 = .ok (.putfield 25, 3) := by decide +kernel
theorem dX6_readWord_55 : decode cX6_readWord 55 = .ok (.goto 50, 3) := by decide +kernel
theorem dX6_readWord_58 : decode cX6_readWord 58 = .ok (.aload_n 0, 1) := by decide +kernel
theorem dX6_readWord_59 : decode cX6_readWord 59 = .ok (.ldc 65, 2) := by decide +kernel
theorem dX6_readWord_61 : decode cX6_readWord 61 = .ok (.invokevirtual 58, 3) := by decide +kernel
theorem dX6_readWord_64 : decode cX6_readWord 64 = .ok (.ifCond .eq 13, 3) := by decide +kernel
theorem dX6_readWord_67 : decode cX6_readWord 67 = .ok (.aload_n 0, 1) := by decide +kernel
theorem dX6_readWord_68 : decode cX6_readWord 68 = .ok (.getstatic 67, 3) := by decide +kernel
theorem dX6_readWord_71 : decode cX6_readWord 71 = .ok (.putfield 25, 3) := by decide +kernel
theorem dX6_readWord_74 : decode cX6_readWord 74 = .ok (.goto 31, 3) := by decide +kernel
theorem dX6_readWord_77 : decode cX6_readWord 77 = .ok (.aload_n 0, 1) := by decide +kernel
theorem dX6_readWord_78 : decode cX6_readWord 78 = .ok (.aload_n 0, 1) := by decide +kernel
theorem dX6_readWord_79 : decode cX6_readWord 79 = .ok (.invokevirtual 70, 3) := by decide +kernel
theorem dX6_readWord_82 : decode cX6_readWord 82 = .ok (.putfield 34, 3) := by decide +kernel
theorem dX6_readWord_85 : decode cX6_readWord 85 = .ok (.aload_n 0, 1) := by decide +kernel
theorem dX6_readWord_86 : decode cX6_readWord 86 = .ok (.aload_n 0, 1) := by decide +kernel
theorem dX6_readWord_87 : decode cX6_readWord 87 = .ok (.getfield 34, 3) := by decide +kernel
theorem dX6_readWord_90 : decode cX6_readWord 90 = .ok (.ifCond .ge 9, 3) := by decide +kernel
theorem dX6_readWord_93 : decode cX6_readWord 93 = .ok (.getstatic 53, 3) := by decide +kernel
theorem dX6_readWord_96 : decode cX6_readWord 96 = .ok (.goto 6, 3) := by decide +kernel
theorem dX6_readWord_99 : decode cX6_readWord 99 = .ok (.getstatic 74, 3) := by decide +kernel
theorem dX6_readWord_102 : decode cX6_readWord 102 = .ok (.putfield 25, 3) := by decide +kernel
theorem dX6_readWord_105 : decode cX6_readWord 105 = .ok (.return_, 1) := by decide +kernel
set_option maxRecDepth 20000 in
theorem ggX6_readNumber_X6_isDigit : GoodIn wsX6_readNumber wsX6_isDigit := goodIn_r _ [16] (by decide +kernel) (by decide +kernel)
set_option maxRecDepth 20000 in
theorem gX6_readNumber_X6_isDigit : GoodIn wsX6_readNumber (va_wsS RX6 44 yX6_isDigit wsX6_isDigit) := goodIn_app (goodIn_of _ (by decide +kernel)) ggX6_readNumber_X6_isDigit
theorem dX6_readNumber_0 : decode cX6_readNumber 0 = .ok (.aload_n 0, 1) := by decide +kernel
theorem dX6_readNumber_1 : decode cX6_readNumber 1 = .ok (.getfield 9, 3) := by decide +kernel
theorem dX6_readNumber_4 : decode cX6_readNumber 4 = .ok (.aload_n 0, 1) := by decide +kernel
theorem dX6_readNumber_5 : decode cX6_readNumber 5 = .ok (.getfield 28, 3) := by decide +kernel
theorem dX6_readNumber_8 : decode cX6_readNumber 8 = .ok (.iaload, 1) := by decide +kernel
theorem dX6_readNumber_9 : decode cX6_readNumber 9 = .ok (.bipush 48, 2) := by decide +kernel
theorem dX6_readNumber_11 : decode cX6_readNumber 11 = .ok (.if_icmp .ne 7, 3) := by decide +kernel
theorem dX6_readNumber_14 : decode cX6_readNumber 14 = .ok (.iconst 1, 1) := by decide +kernel
theorem dX6_readNumber_15 : decode cX6_readNumber 15 = .ok (.goto 4, 3) := by decide +kernel
theorem dX6_readNumber_18 : decode cX6_readNumber 18 = .ok (.iconst 0, 1) := by decide +kernel
theorem dX6_readNumber_19 : decode cX6_readNumber 19 = .ok (.istore_n 1, 1) := by decide +kernel
theorem dX6_readNumber_20 : decode cX6_readNumber 20 = .ok (.aload_n 0, 1) := by decide +kernel
theorem dX6_readNumber_21 : decode cX6_readNumber 21 = .ok (.getfield 31, 3) := by decide +kernel
theorem dX6_readNumber_24 : decode cX6_readNumber 24 = .ok (.aload_n 0, 1) := by decide +kernel
theorem dX6_readNumber_25 : decode cX6_readNumber 25 = .ok (.getfield 15, 3) := by decide +kernel
theorem dX6_readNumber_28 : decode cX6_readNumber 28 = .ok (.if_icmp .ge 60, 3) := by decide +kernel
theorem dX6_readNumber_31 : decode cX6_readNumber 31 = .ok (.aload_n 0, 1) := by decide +kernel
theorem dX6_readNumber_32 : decode cX6_readNumber 32 = .ok (.getfield 9, 3) := by decide +kernel
theorem dX6_readNumber_35 : decode cX6_readNumber 35 = .ok (.aload_n 0, 1) := by decide +kernel
theorem dX6_readNumber_36 : decode cX6_readNumber 36 = .ok (.getfield 31, 3) := by decide +kernel
theorem dX6_readNumber_39 : decode cX6_readNumber 39 = .ok (.iaload, 1) := by decide +kernel
theorem dX6_readNumber_40 : decode cX6_readNumber 40 = .ok (.invokestatic 44, 3) := by decide +kernel
theorem dX6_readNumber_43 : decode cX6_readNumber 43 = .ok (.ifCond .eq 45, 3) := by decide +kernel
theorem dX6_readNumber_46 : decode cX6_readNumber 46 = .ok (.aload_n 0, 1) := by decide +kernel
theorem dX6_readNumber_47 : decode cX6_readNumber 47 = .ok (.bipush 100, 2) := by decide +kernel
theorem dX6_readNumber_49 : decode cX6_readNumber 49 = .ok (.aload_n 0, 1) := by decide +kernel
theorem dX6_readNumber_50 : decode cX6_readNumber 50 = .ok (.getfield 34, 3) := by decide +kernel
theorem dX6_readNumber_53 : decode cX6_readNumber 53 = .ok (.bipush 10, 2) := by decide +kernel
theorem dX6_readNumber_55 : decode cX6_readNumber 55 = .ok (.imul, 1) := by decide +kernel
theorem dX6_readNumber_56 : decode cX6_readNumber 56 = .ok (.aload_n 0, 1) := by decide +kernel
theorem dX6_readNumber_57 : decode cX6_readNumber 57 = .ok (.getfield 9, 3) := by decide +kernel
theorem dX6_readNumber_60 : decode cX6_readNumber 60 = .ok (.aload_n 0, 1) := by decide +kernel
theorem dX6_readNumber_61 : decode cX6_readNumber 61 = .ok (.getfield 31, 3) := by decide +kernel
theorem dX6_readNumber_64 : decode cX6_readNumber 64 = .ok (.iaload, 1) := by decide +kernel
theorem dX6_readNumber_65 : decode cX6_readNumber 65 = .ok (.iadd, 1) := by decide +kernel
theorem dX6_readNumber_66 : decode cX6_readNumber 66 = .ok (.bipush 48, 2) := by decide +kernel
theorem dX6_readNumber_68 : decode cX6_readNumber 68 = .ok (.isub, 1) := by decide +kernel
theorem dX6_readNumber_69 : decode cX6_readNumber 69 = .ok (.invokestatic 77, 3) := by decide +kernel
theorem dX6_readNumber_72 : decode cX6_readNumber 72 = .ok (.putfield 34, 3) := by decide +kernel
theorem dX6_readNumber_75 : decode cX6_readNumber 75 = .ok (.aload_n 0, 1) := by decide +kernel
theorem dX6_readNumber_76 : decode cX6_readNumber 76 = .ok (.dup, 1) := by decide +kernel
theorem dX6_readNumber_77 : decode cX6_readNumber 77 = .ok (.getfield 31, 3) := by decide +kernel
theorem dX6_readNumber_80 : decode cX6_readNumber 80 = .ok (.iconst 1, 1) := by decide +kernel
theorem dX6_readNumber_81 : decode cX6_readNumber 81 = .ok (.iadd, 1) := by decide +kernel
theorem dX6_readNumber_82 : decode cX6_readNumber 82 = .ok (.putfield 31, 3) := by decide +kernel
theorem dX6_readNumber_85 : decode cX6_readNumber 85 = .ok (.goto (-65), 3) := by decide +kernel
theorem dX6_readNumber_88 : decode cX6_readNumber 88 = .ok (.aload_n 0, 1) := by decide +kernel
theorem dX6_readNumber_89 : decode cX6_readNumber 89 = .ok (.getfield 34, 3) := by decide +kernel
theorem dX6_readNumber_92 : decode cX6_readNumber 92 = .ok (.bipush 99, 2) := by decide +kernel
theorem dX6_readNumber_94 : decode cX6_readNumber 94 = .ok (.if_icmp .gt 20, 3) := by decide +kernel
theorem dX6_readNumber_97 : decode cX6_readNumber 97 = .ok (.iload_n 1, 1) := by decide +kernel
theorem dX6_readNumber_98 : decode cX6_readNumber 98 = .ok (.ifCond .eq 20, 3) := by decide +kernel
theorem dX6_readNumber_101 : decode cX6_readNumber 101 = .ok (.aload_n 0, 1) := by decide +kernel
theorem dX6_readNumber_102 : decode cX6_readNumber 102 = .ok (.getfield 31, 3) := by decide +kernel
theorem dX6_readNumber_105 : decode cX6_readNumber 105 = .ok (.aload_n 0, 1) := by decide +kernel
theorem dX6_readNumber_106 : decode cX6_readNumber 106 = .ok (.getfield 28, 3) := by decide +kernel
theorem dX6_readNumber_109 : decode cX6_readNumber 109 = .ok (.isub, 1) := by decide +kernel
theorem dX6_readNumber_110 : decode cX6_readNumber 110 = .ok (.iconst 1, 1) := by decide +kernel
theorem dX6_readNumber_111 : decode cX6_readNumber 111 = .ok (.if_icmp .le 7, 3) := by decide +kernel
theorem dX6_readNumber_114 : decode cX6_readNumber 114 = .ok (.iconst 1, 1) := by decide +kernel
theorem dX6_readNumber_115 : decode cX6_readNumber 115 = .ok (.goto 4, 3) := by decide +kernel
theorem dX6_readNumber_118 : decode cX6_readNumber 118 = .ok (.iconst 0, 1) := by decide +kernel
theorem dX6_readNumber_119 : decode cX6_readNumber 119 = .ok (.istore_n 2, 1) := by decide +kernel
theorem dX6_readNumber_120 : decode cX6_readNumber 120 = .ok (.aload_n 0, 1) := by decide +kernel
theorem dX6_readNumber_121 : decode cX6_readNumber 121 = .ok (.iload_n 2, 1) := by decide +kernel
theorem dX6_readNumber_122 : decode cX6_readNumber 122 = .ok (.ifCond .eq 9, 3) := by decide +kernel
theorem dX6_readNumber_125 : decode cX6_readNumber 125 = .ok (.getstatic 53, 3) := by decide +kernel
theorem dX6_readNumber_128 : decode cX6_readNumber 128 = .ok (.goto 6, 3) := by decide +kernel
theorem dX6_readNumber_131 : decode cX6_readNumber 131 = .ok (.getstatic 83, 3) := by decide +kernel
theorem dX6_readNumber_134 : decode cX6_readNumber 134 = .ok (.putfield 25, 3) := by decide +kernel
theorem dX6_readNumber_137 : decode cX6_readNumber 137 = .ok (.return_, 1) := by decide +kernel
set_option maxRecDepth 20000 in
theorem ggX6_spells_J0_length_8abf5 : GoodIn wsX6_spells wsJ0_length_8abf5 := goodIn_r _ [8, 9, 10, 11, 12, 7, 13, 14, 15] (by decide +kernel) (by decide +kernel)
set_option maxRecDepth 20000 in
theorem gX6_spells_J0_length_8abf5 : GoodIn wsX6_spells (wsV RX6 86 RJ0 yJ0_length_8abf5 wsJ0_length_8abf5) := goodIn_app (goodIn_of _ (by decide +kernel)) ggX6_spells_J0_length_8abf5
set_option maxRecDepth 20000 in
theorem ggX6_spells_J0_charAt_5068e : GoodIn wsX6_spells wsJ0_charAt_5068e := goodIn_r _ [19, 9, 20, 21, 22, 7, 23, 14, 15, 24, 25, 26, 27, 28, 29, 30, 31, 32, 33, 34, 35, 36, 37, 38, 39, 40, 41, 42, 43, 44, 45, 46, 47, 48, 49, 50, 51, 52] (by decide +kernel) (by decide +kernel)
set_option maxRecDepth 20000 in
theorem gX6_spells_J0_charAt_5068e : GoodIn wsX6_spells (wsV RX6 90 RJ0 yJ0_charAt_5068e wsJ0_charAt_5068e) := goodIn_app (goodIn_of _ (by decide +kernel)) ggX6_spells_J0_charAt_5068e
theorem dX6_spells_0 : decode cX6_spells 0 = .ok (.aload_n 0, 1) := by decide +kernel
theorem dX6_spells_1 : decode cX6_spells 1 = .ok (.getfield 31, 3) := by decide +kernel
theorem dX6_spells_4 : decode cX6_spells 4 = .ok (.aload_n 0, 1) := by decide +kernel
theorem dX6_spells_5 : decode cX6_spells 5 = .ok (.getfield 28, 3) := by decide +kernel
theorem dX6_spells_8 : decode cX6_spells 8 = .ok (.isub, 1) := by decide +kernel
theorem dX6_spells_9 : decode cX6_spells 9 = .ok (.aload_n 1, 1) := by decide +kernel
theorem dX6_spells_10 : decode cX6_spells 10 = .ok (.invokevirtual 86, 3) := by decide +kernel
theorem dX6_spells_13 : decode cX6_spells 13 = .ok (.if_icmp .eq 5, 3) := by decide +kernel
theorem dX6_spells_16 : decode cX6_spells 16 = .ok (.iconst 0, 1) := by decide +kernel
theorem dX6_spells_17 : decode cX6_spells 17 = .ok (.ireturn, 1) := by decide +kernel
theorem dX6_spells_18 : decode cX6_spells 18 = .ok (.iconst 0, 1) := by decide +kernel
theorem dX6_spells_19 : decode cX6_spells 19 = .ok (.istore_n 2, 1) := by decide +kernel
theorem dX6_spells_20 : decode cX6_spells 20 = .ok (.iload_n 2, 1) := by decide +kernel
theorem dX6_spells_21 : decode cX6_spells 21 = .ok (.aload_n 1, 1) := by decide +kernel
theorem dX6_spells_22 : decode cX6_spells 22 = .ok (.invokevirtual 86, 3) := by decide +kernel
theorem dX6_spells_25 : decode cX6_spells 25 = .ok (.if_icmp .ge 30, 3) := by decide +kernel
theorem dX6_spells_28 : decode cX6_spells 28 = .ok (.aload_n 0, 1) := by decide +kernel
theorem dX6_spells_29 : decode cX6_spells 29 = .ok (.getfield 9, 3) := by decide +kernel
theorem dX6_spells_32 : decode cX6_spells 32 = .ok (.aload_n 0, 1) := by decide +kernel
theorem dX6_spells_33 : decode cX6_spells 33 = .ok (.getfield 28, 3) := by decide +kernel
theorem dX6_spells_36 : decode cX6_spells 36 = .ok (.iload_n 2, 1) := by decide +kernel
theorem dX6_spells_37 : decode cX6_spells 37 = .ok (.iadd, 1) := by decide +kernel
theorem dX6_spells_38 : decode cX6_spells 38 = .ok (.iaload, 1) := by decide +kernel
theorem dX6_spells_39 : decode cX6_spells 39 = .ok (.aload_n 1, 1) := by decide +kernel
theorem dX6_spells_40 : decode cX6_spells 40 = .ok (.iload_n 2, 1) := by decide +kernel
theorem dX6_spells_41 : decode cX6_spells 41 = .ok (.invokevirtual 90, 3) := by decide +kernel
theorem dX6_spells_44 : decode cX6_spells 44 = .ok (.if_icmp .eq 5, 3) := by decide +kernel
theorem dX6_spells_47 : decode cX6_spells 47 = .ok (.iconst 0, 1) := by decide +kernel
theorem dX6_spells_48 : decode cX6_spells 48 = .ok (.ireturn, 1) := by decide +kernel
theorem dX6_spells_49 : decode cX6_spells 49 = .ok (.iinc 2 1, 3) := by decide +kernel
theorem dX6_spells_52 : decode cX6_spells 52 = .ok (.goto (-32), 3) := by decide +kernel
theorem dX6_spells_55 : decode cX6_spells 55 = .ok (.iconst 1, 1) := by decide +kernel
theorem dX6_spells_56 : decode cX6_spells 56 = .ok (.ireturn, 1) := by decide +kernel
set_option maxRecDepth 20000 in
theorem ggX6_pattern_X6_bitsOf : GoodIn wsX6_pattern wsX6_bitsOf := goodIn_r _ [7] (by decide +kernel) (by decide +kernel)
set_option maxRecDepth 20000 in
theorem gX6_pattern_X6_bitsOf : GoodIn wsX6_pattern (va_wsS RX6 94 yX6_bitsOf wsX6_bitsOf) := goodIn_app (goodIn_of _ (by decide +kernel)) ggX6_pattern_X6_bitsOf
theorem dX6_pattern_0 : decode cX6_pattern 0 = .ok (.aload_n 0, 1) := by decide +kernel
theorem dX6_pattern_1 : decode cX6_pattern 1 = .ok (.getfield 31, 3) := by decide +kernel
theorem dX6_pattern_4 : decode cX6_pattern 4 = .ok (.aload_n 0, 1) := by decide +kernel
theorem dX6_pattern_5 : decode cX6_pattern 5 = .ok (.getfield 28, 3) := by decide +kernel
theorem dX6_pattern_8 : decode cX6_pattern 8 = .ok (.isub, 1) := by decide +kernel
theorem dX6_pattern_9 : decode cX6_pattern 9 = .ok (.iconst 3, 1) := by decide +kernel
theorem dX6_pattern_10 : decode cX6_pattern 10 = .ok (.if_icmp .eq 5, 3) := by decide +kernel
theorem dX6_pattern_13 : decode cX6_pattern 13 = .ok (.iconst (-1), 1) := by decide +kernel
theorem dX6_pattern_14 : decode cX6_pattern 14 = .ok (.ireturn, 1) := by decide +kernel
theorem dX6_pattern_15 : decode cX6_pattern 15 = .ok (.aload_n 0, 1) := by decide +kernel
theorem dX6_pattern_16 : decode cX6_pattern 16 = .ok (.getfield 9, 3) := by decide +kernel
theorem dX6_pattern_19 : decode cX6_pattern 19 = .ok (.aload_n 0, 1) := by decide +kernel
theorem dX6_pattern_20 : decode cX6_pattern 20 = .ok (.getfield 28, 3) := by decide +kernel
theorem dX6_pattern_23 : decode cX6_pattern 23 = .ok (.iaload, 1) := by decide +kernel
theorem dX6_pattern_24 : decode cX6_pattern 24 = .ok (.bipush 114, 2) := by decide +kernel
theorem dX6_pattern_26 : decode cX6_pattern 26 = .ok (.bipush 112, 2) := by decide +kernel
theorem dX6_pattern_28 : decode cX6_pattern 28 = .ok (.iconst 2, 1) := by decide +kernel
theorem dX6_pattern_29 : decode cX6_pattern 29 = .ok (.invokestatic 94, 3) := by decide +kernel
theorem dX6_pattern_32 : decode cX6_pattern 32 = .ok (.istore_n 1, 1) := by decide +kernel
theorem dX6_pattern_33 : decode cX6_pattern 33 = .ok (.aload_n 0, 1) := by decide +kernel
theorem dX6_pattern_34 : decode cX6_pattern 34 = .ok (.getfield 9, 3) := by decide +kernel
theorem dX6_pattern_37 : decode cX6_pattern 37 = .ok (.aload_n 0, 1) := by decide +kernel
theorem dX6_pattern_38 : decode cX6_pattern 38 = .ok (.getfield 28, 3) := by decide +kernel
theorem dX6_pattern_41 : decode cX6_pattern 41 = .ok (.iconst 1, 1) := by decide +kernel
theorem dX6_pattern_42 : decode cX6_pattern 42 = .ok (.iadd, 1) := by decide +kernel
theorem dX6_pattern_43 : decode cX6_pattern 43 = .ok (.iaload, 1) := by decide +kernel
theorem dX6_pattern_44 : decode cX6_pattern 44 = .ok (.bipush 108, 2) := by decide +kernel
theorem dX6_pattern_46 : decode cX6_pattern 46 = .ok (.bipush 117, 2) := by decide +kernel
theorem dX6_pattern_48 : decode cX6_pattern 48 = .ok (.iconst 4, 1) := by decide +kernel
theorem dX6_pattern_49 : decode cX6_pattern 49 = .ok (.invokestatic 94, 3) := by decide +kernel
theorem dX6_pattern_52 : decode cX6_pattern 52 = .ok (.istore_n 2, 1) := by decide +kernel
theorem dX6_pattern_53 : decode cX6_pattern 53 = .ok (.aload_n 0, 1) := by decide +kernel
theorem dX6_pattern_54 : decode cX6_pattern 54 = .ok (.getfield 9, 3) := by decide +kernel
theorem dX6_pattern_57 : decode cX6_pattern 57 = .ok (.aload_n 0, 1) := by decide +kernel
theorem dX6_pattern_58 : decode cX6_pattern 58 = .ok (.getfield 28, 3) := by decide +kernel
theorem dX6_pattern_61 : decode cX6_pattern 61 = .ok (.iconst 2, 1) := by decide +kernel
theorem dX6_pattern_62 : decode cX6_pattern 62 = .ok (.iadd, 1) := by decide +kernel
theorem dX6_pattern_63 : decode cX6_pattern 63 = .ok (.iaload, 1) := by decide +kernel
theorem dX6_pattern_64 : decode cX6_pattern 64 = .ok (.bipush 121, 2) := by decide +kernel
theorem dX6_pattern_66 : decode cX6_pattern 66 = .ok (.bipush 110, 2) := by decide +kernel
theorem dX6_pattern_68 : decode cX6_pattern 68 = .ok (.iconst 1, 1) := by decide +kernel
theorem dX6_pattern_69 : decode cX6_pattern 69 = .ok (.invokestatic 94, 3) := by decide +kernel
theorem dX6_pattern_72 : decode cX6_pattern 72 = .ok (.istore_n 3, 1) := by decide +kernel
theorem dX6_pattern_73 : decode cX6_pattern 73 = .ok (.iload_n 1, 1) := by decide +kernel
theorem dX6_pattern_74 : decode cX6_pattern 74 = .ok (.ifCond .lt 11, 3) := by decide +kernel
theorem dX6_pattern_77 : decode cX6_pattern 77 = .ok (.iload_n 2, 1) := by decide +kernel
theorem dX6_pattern_78 : decode cX6_pattern 78 = .ok (.ifCond .lt 7, 3) := by decide +kernel
theorem dX6_pattern_81 : decode cX6_pattern 81 = .ok (.iload_n 3, 1) := by decide +kernel
theorem dX6_pattern_82 : decode cX6_pattern 82 = .ok (.ifCond .ge 7, 3) := by decide +kernel
theorem dX6_pattern_85 : decode cX6_pattern 85 = .ok (.iconst (-1), 1) := by decide +kernel
theorem dX6_pattern_86 : decode cX6_pattern 86 = .ok (.goto 8, 3) := by decide +kernel
theorem dX6_pattern_89 : decode cX6_pattern 89 = .ok (.iload_n 1, 1) := by decide +kernel
theorem dX6_pattern_90 : decode cX6_pattern 90 = .ok (.iload_n 2, 1) := by decide +kernel
theorem dX6_pattern_91 : decode cX6_pattern 91 = .ok (.iadd, 1) := by decide +kernel
theorem dX6_pattern_92 : decode cX6_pattern 92 = .ok (.iload_n 3, 1) := by decide +kernel
theorem dX6_pattern_93 : decode cX6_pattern 93 = .ok (.iadd, 1) := by decide +kernel
theorem dX6_pattern_94 : decode cX6_pattern 94 = .ok (.ireturn, 1) := by decide +kernel
theorem dX6_bitsOf_0 : decode cX6_bitsOf 0 = .ok (.iload_n 0, 1) := by decide +kernel
theorem dX6_bitsOf_1 : decode cX6_bitsOf 1 = .ok (.iload_n 1, 1) := by decide +kernel
theorem dX6_bitsOf_2 : decode cX6_bitsOf 2 = .ok (.if_icmp .ne 10, 3) := by decide +kernel
theorem dX6_bitsOf_5 : decode cX6_bitsOf 5 = .ok (.iload_n 3, 1) := by decide +kernel
theorem dX6_bitsOf_6 : decode cX6_bitsOf 6 = .ok (.bipush 8, 2) := by decide +kernel
theorem dX6_bitsOf_8 : decode cX6_bitsOf 8 = .ok (.imul, 1) := by decide +kernel
theorem dX6_bitsOf_9 : decode cX6_bitsOf 9 = .ok (.iload_n 3, 1) := by decide +kernel
theorem dX6_bitsOf_10 : decode cX6_bitsOf 10 = .ok (.iadd, 1) := by decide +kernel
theorem dX6_bitsOf_11 : decode cX6_bitsOf 11 = .ok (.ireturn, 1) := by decide +kernel
theorem dX6_bitsOf_12 : decode cX6_bitsOf 12 = .ok (.iload_n 0, 1) := by decide +kernel
theorem dX6_bitsOf_13 : decode cX6_bitsOf 13 = .ok (.iload_n 2, 1) := by decide +kernel
theorem dX6_bitsOf_14 : decode cX6_bitsOf 14 = .ok (.if_icmp .ne 8, 3) := by decide +kernel
theorem dX6_bitsOf_17 : decode cX6_bitsOf 17 = .ok (.iload_n 3, 1) := by decide +kernel
theorem dX6_bitsOf_18 : decode cX6_bitsOf 18 = .ok (.bipush 8, 2) := by decide +kernel
theorem dX6_bitsOf_20 : decode cX6_bitsOf 20 = .ok (.imul, 1) := by decide +kernel
theorem dX6_bitsOf_21 : decode cX6_bitsOf 21 = .ok (.ireturn, 1) := by decide +kernel
theorem dX6_bitsOf_22 : decode cX6_bitsOf 22 = .ok (.iload_n 0, 1) := by decide +kernel
theorem dX6_bitsOf_23 : decode cX6_bitsOf 23 = .ok (.bipush 120, 2) := by decide +kernel
theorem dX6_bitsOf_25 : decode cX6_bitsOf 25 = .ok (.if_icmp .ne 7, 3) := by decide +kernel
theorem dX6_bitsOf_28 : decode cX6_bitsOf 28 = .ok (.iconst 0, 1) := by decide +kernel
theorem dX6_bitsOf_29 : decode cX6_bitsOf 29 = .ok (.goto 4, 3) := by decide +kernel
theorem dX6_bitsOf_32 : decode cX6_bitsOf 32 = .ok (.iconst (-1), 1) := by decide +kernel
theorem dX6_bitsOf_33 : decode cX6_bitsOf 33 = .ok (.ireturn, 1) := by decide +kernel
theorem dX6_isLetter_0 : decode cX6_isLetter 0 = .ok (.iload_n 0, 1) := by decide +kernel
theorem dX6_isLetter_1 : decode cX6_isLetter 1 = .ok (.bipush 97, 2) := by decide +kernel
theorem dX6_isLetter_3 : decode cX6_isLetter 3 = .ok (.if_icmp .lt 13, 3) := by decide +kernel
theorem dX6_isLetter_6 : decode cX6_isLetter 6 = .ok (.iload_n 0, 1) := by decide +kernel
theorem dX6_isLetter_7 : decode cX6_isLetter 7 = .ok (.bipush 122, 2) := by decide +kernel
theorem dX6_isLetter_9 : decode cX6_isLetter 9 = .ok (.if_icmp .gt 7, 3) := by decide +kernel
theorem dX6_isLetter_12 : decode cX6_isLetter 12 = .ok (.iconst 1, 1) := by decide +kernel
theorem dX6_isLetter_13 : decode cX6_isLetter 13 = .ok (.goto 4, 3) := by decide +kernel
theorem dX6_isLetter_16 : decode cX6_isLetter 16 = .ok (.iconst 0, 1) := by decide +kernel
theorem dX6_isLetter_17 : decode cX6_isLetter 17 = .ok (.ireturn, 1) := by decide +kernel
theorem dX6_isDigit_0 : decode cX6_isDigit 0 = .ok (.iload_n 0, 1) := by decide +kernel
theorem dX6_isDigit_1 : decode cX6_isDigit 1 = .ok (.bipush 48, 2) := by decide +kernel
theorem dX6_isDigit_3 : decode cX6_isDigit 3 = .ok (.if_icmp .lt 13, 3) := by decide +kernel
theorem dX6_isDigit_6 : decode cX6_isDigit 6 = .ok (.iload_n 0, 1) := by decide +kernel
theorem dX6_isDigit_7 : decode cX6_isDigit 7 = .ok (.bipush 57, 2) := by decide +kernel
theorem dX6_isDigit_9 : decode cX6_isDigit 9 = .ok (.if_icmp .gt 7, 3) := by decide +kernel
theorem dX6_isDigit_12 : decode cX6_isDigit 12 = .ok (.iconst 1, 1) := by decide +kernel
theorem dX6_isDigit_13 : decode cX6_isDigit 13 = .ok (.goto 4, 3) := by decide +kernel
theorem dX6_isDigit_16 : decode cX6_isDigit 16 = .ok (.iconst 0, 1) := by decide +kernel
theorem dX6_isDigit_17 : decode cX6_isDigit 17 = .ok (.ireturn, 1) := by decide +kernel
theorem dX8_init_0 : decode cX8_init 0 = .ok (.aload_n 0, 1) := by decide +kernel
theorem dX8_init_1 : decode cX8_init 1 = .ok (.invokespecial 3, 3) := by decide +kernel
theorem dX8_init_4 : decode cX8_init 4 = .ok (.aload_n 0, 1) := by decide +kernel
theorem dX8_init_5 : decode cX8_init 5 = .ok (.bipush 60, 2) := by decide +kernel
theorem dX8_init_7 : decode cX8_init 7 = .ok (.newarray .int, 2) := by decide +kernel
theorem dX8_init_9 : decode cX8_init 9 = .ok (.putfield 9, 3) := by decide +kernel
theorem dX8_init_12 : decode cX8_init 12 = .ok (.aload_n 0, 1) := by decide +kernel
theorem dX8_init_13 : decode cX8_init 13 = .ok (.iconst 0, 1) := by decide +kernel
theorem dX8_init_14 : decode cX8_init 14 = .ok (.putfield 15, 3) := by decide +kernel
theorem dX8_init_17 : decode cX8_init 17 = .ok (.return_, 1) := by decide +kernel
theorem dX8_append_0 : decode cX8_append 0 = .ok (.aload_n 0, 1) := by decide +kernel
theorem dX8_append_1 : decode cX8_append 1 = .ok (.getfield 15, 3) := by decide +kernel
theorem dX8_append_4 : decode cX8_append 4 = .ok (.bipush 60, 2) := by decide +kernel
theorem dX8_append_6 : decode cX8_append 6 = .ok (.if_icmp .lt 6, 3) := by decide +kernel
theorem dX8_append_9 : decode cX8_append 9 = .ok (.bipush (-3), 2) := by decide +kernel
theorem dX8_append_11 : decode cX8_append 11 = .ok (.ireturn, 1) := by decide +kernel
theorem dX8_append_12 : decode cX8_append 12 = .ok (.aload_n 0, 1) := by decide +kernel
theorem dX8_append_13 : decode cX8_append 13 = .ok (.getfield 9, 3) := by decide +kernel
theorem dX8_append_16 : decode cX8_append 16 = .ok (.aload_n 0, 1) := by decide +kernel
theorem dX8_append_17 : decode cX8_append 17 = .ok (.getfield 15, 3) := by decide +kernel
theorem dX8_append_20 : decode cX8_append 20 = .ok (.iload_n 1, 1) := by decide +kernel
theorem dX8_append_21 : decode cX8_append 21 = .ok (.iastore, 1) := by decide +kernel
theorem dX8_append_22 : decode cX8_append 22 = .ok (.aload_n 0, 1) := by decide +kernel
theorem dX8_append_23 : decode cX8_append 23 = .ok (.dup, 1) := by decide +kernel
theorem dX8_append_24 : decode cX8_append 24 = .ok (.getfield 15, 3) := by decide +kernel
theorem dX8_append_27 : decode cX8_append 27 = .ok (.iconst 1, 1) := by decide +kernel
theorem dX8_append_28 : decode cX8_append 28 = .ok (.iadd, 1) := by decide +kernel
theorem dX8_append_29 : decode cX8_append 29 = .ok (.putfield 15, 3) := by decide +kernel
theorem dX8_append_32 : decode cX8_append 32 = .ok (.aload_n 0, 1) := by decide +kernel
theorem dX8_append_33 : decode cX8_append 33 = .ok (.getfield 15, 3) := by decide +kernel
theorem dX8_append_36 : decode cX8_append 36 = .ok (.ireturn, 1) := by decide +kernel
set_option maxRecDepth 20000 in
theorem ggX8_rise_X8_greatestChange : GoodIn wsX8_rise wsX8_greatestChange := goodIn_r _ [5, 6, 7, 8, 9, 10, 11, 12, 13] (by decide +kernel) (by decide +kernel)
set_option maxRecDepth 20000 in
theorem gX8_rise_X8_greatestChange : GoodIn wsX8_rise (wsV RX8 19 RX8 yX8_greatestChange wsX8_greatestChange) := goodIn_app (goodIn_of _ (by decide +kernel)) ggX8_rise_X8_greatestChange
theorem dX8_rise_0 : decode cX8_rise 0 = .ok (.aload_n 0, 1) := by decide +kernel
theorem dX8_rise_1 : decode cX8_rise 1 = .ok (.iload_n 1, 1) := by decide +kernel
theorem dX8_rise_2 : decode cX8_rise 2 = .ok (.iconst 1, 1) := by decide +kernel
theorem dX8_rise_3 : decode cX8_rise 3 = .ok (.invokevirtual 19, 3) := by decide +kernel
theorem dX8_rise_6 : decode cX8_rise 6 = .ok (.ireturn, 1) := by decide +kernel
set_option maxRecDepth 20000 in
theorem ggX8_fall_X8_greatestChange : GoodIn wsX8_fall wsX8_greatestChange := goodIn_r _ [5, 6, 7, 8, 9, 10, 11, 12, 13] (by decide +kernel) (by decide +kernel)
set_option maxRecDepth 20000 in
theorem gX8_fall_X8_greatestChange : GoodIn wsX8_fall (wsV RX8 19 RX8 yX8_greatestChange wsX8_greatestChange) := goodIn_app (goodIn_of _ (by decide +kernel)) ggX8_fall_X8_greatestChange
theorem dX8_fall_0 : decode cX8_fall 0 = .ok (.aload_n 0, 1) := by decide +kernel
theorem dX8_fall_1 : decode cX8_fall 1 = .ok (.iload_n 1, 1) := by decide +kernel
theorem dX8_fall_2 : decode cX8_fall 2 = .ok (.iconst (-1), 1) := by decide +kernel
theorem dX8_fall_3 : decode cX8_fall 3 = .ok (.invokevirtual 19, 3) := by decide +kernel
theorem dX8_fall_6 : decode cX8_fall 6 = .ok (.ireturn, 1) := by decide +kernel
theorem dX8_greatestChange_0 : decode cX8_greatestChange 0 = .ok (.iload_n 1, 1) := by decide +kernel
theorem dX8_greatestChange_1 : decode cX8_greatestChange 1 = .ok (.aload_n 0, 1) := by decide +kernel
theorem dX8_greatestChange_2 : decode cX8_greatestChange 2 = .ok (.getfield 15, 3) := by decide +kernel
theorem dX8_greatestChange_5 : decode cX8_greatestChange 5 = .ok (.if_icmp .lt 6, 3) := by decide +kernel
theorem dX8_greatestChange_8 : decode cX8_greatestChange 8 = .ok (.bipush (-9), 2) := by decide +kernel
theorem dX8_greatestChange_10 : decode cX8_greatestChange 10 = .ok (.ireturn, 1) := by decide +kernel
theorem dX8_greatestChange_11 : decode cX8_greatestChange 11 = .ok (.iconst 0, 1) := by decide +kernel
theorem dX8_greatestChange_12 : decode cX8_greatestChange 12 = .ok (.istore_n 3, 1) := by decide +kernel
theorem dX8_greatestChange_13 : decode cX8_greatestChange 13 = .ok (.iconst 0, 1) := by decide +kernel
theorem dX8_greatestChange_14 : decode cX8_greatestChange 14 = .ok (.istore 4, 2) := by decide +kernel
theorem dX8_greatestChange_16 : decode cX8_greatestChange 16 = .ok (.iload 4, 2) := by decide +kernel
theorem dX8_greatestChange_18 : decode cX8_greatestChange 18 = .ok (.iload_n 1, 1) := by decide +kernel
theorem dX8_greatestChange_19 : decode cX8_greatestChange 19 = .ok (.iadd, 1) := by decide +kernel
theorem dX8_greatestChange_20 : decode cX8_greatestChange 20 = .ok (.aload_n 0, 1) := by decide +kernel
theorem dX8_greatestChange_21 : decode cX8_greatestChange 21 = .ok (.getfield 15, 3) := by decide +kernel
theorem dX8_greatestChange_24 : decode cX8_greatestChange 24 = .ok (.if_icmp .ge 33, 3) := by decide +kernel
theorem dX8_greatestChange_27 : decode cX8_greatestChange 27 = .ok (.iload_n 3, 1) := by decide +kernel
theorem dX8_greatestChange_28 : decode cX8_greatestChange 28 = .ok (.iload_n 2, 1) := by decide +kernel
theorem dX8_greatestChange_29 : decode cX8_greatestChange 29 = .ok (.aload_n 0, 1) := by decide +kernel
theorem dX8_greatestChange_30 : decode cX8_greatestChange 30 = .ok (.getfield 9, 3) := by decide +kernel
theorem dX8_greatestChange_33 : decode cX8_greatestChange 33 = .ok (.iload 4, 2) := by decide +kernel
theorem dX8_greatestChange_35 : decode cX8_greatestChange 35 = .ok (.iload_n 1, 1) := by decide +kernel
theorem dX8_greatestChange_36 : decode cX8_greatestChange 36 = .ok (.iadd, 1) := by decide +kernel
theorem dX8_greatestChange_37 : decode cX8_greatestChange 37 = .ok (.iaload, 1) := by decide +kernel
theorem dX8_greatestChange_38 : decode cX8_greatestChange 38 = .ok (.aload_n 0, 1) := by decide +kernel
theorem dX8_greatestChange_39 : decode cX8_greatestChange 39 = .ok (.getfield 9, 3) := by decide +kernel
theorem dX8_greatestChange_42 : decode cX8_greatestChange 42 = .ok (.iload 4, 2) := by decide +kernel
theorem dX8_greatestChange_44 : decode cX8_greatestChange 44 = .ok (.iaload, 1) := by decide +kernel
theorem dX8_greatestChange_45 : decode cX8_greatestChange 45 = .ok (.isub, 1) := by decide +kernel
theorem dX8_greatestChange_46 : decode cX8_greatestChange 46 = .ok (.imul, 1) := by decide +kernel
theorem dX8_greatestChange_47 : decode cX8_greatestChange 47 = .ok (.invokestatic 23, 3) := by decide +kernel
theorem dX8_greatestChange_50 : decode cX8_greatestChange 50 = .ok (.istore_n 3, 1) := by decide +kernel
theorem dX8_greatestChange_51 : decode cX8_greatestChange 51 = .ok (.iinc 4 1, 3) := by decide +kernel
theorem dX8_greatestChange_54 : decode cX8_greatestChange 54 = .ok (.goto (-38), 3) := by decide +kernel
theorem dX8_greatestChange_57 : decode cX8_greatestChange 57 = .ok (.iload_n 3, 1) := by decide +kernel
theorem dX8_greatestChange_58 : decode cX8_greatestChange 58 = .ok (.ireturn, 1) := by decide +kernel
set_option maxRecDepth 20000 in
theorem ggX8_sure_X8_stays : GoodIn wsX8_sure wsX8_stays := goodIn_r _ [6, 7, 1, 8, 9, 10, 5, 11, 12, 13, 14, 15, 16, 17, 18, 19, 20, 21, 22, 23, 24, 25] (by decide +kernel) (by decide +kernel)
set_option maxRecDepth 20000 in
theorem gX8_sure_X8_stays : GoodIn wsX8_sure (wsV RX8 28 RX8 yX8_stays wsX8_stays) := goodIn_app (goodIn_of _ (by decide +kernel)) ggX8_sure_X8_stays
theorem dX8_sure_0 : decode cX8_sure 0 = .ok (.iconst 0, 1) := by decide +kernel
theorem dX8_sure_1 : decode cX8_sure 1 = .ok (.istore_n 1, 1) := by decide +kernel
theorem dX8_sure_2 : decode cX8_sure 2 = .ok (.iload_n 1, 1) := by decide +kernel
theorem dX8_sure_3 : decode cX8_sure 3 = .ok (.iconst 1, 1) := by decide +kernel
theorem dX8_sure_4 : decode cX8_sure 4 = .ok (.iadd, 1) := by decide +kernel
theorem dX8_sure_5 : decode cX8_sure 5 = .ok (.aload_n 0, 1) := by decide +kernel
theorem dX8_sure_6 : decode cX8_sure 6 = .ok (.getfield 15, 3) := by decide +kernel
theorem dX8_sure_9 : decode cX8_sure 9 = .ok (.if_icmp .ge 19, 3) := by decide +kernel
theorem dX8_sure_12 : decode cX8_sure 12 = .ok (.aload_n 0, 1) := by decide +kernel
theorem dX8_sure_13 : decode cX8_sure 13 = .ok (.iload_n 1, 1) := by decide +kernel
theorem dX8_sure_14 : decode cX8_sure 14 = .ok (.iconst 1, 1) := by decide +kernel
theorem dX8_sure_15 : decode cX8_sure 15 = .ok (.iadd, 1) := by decide +kernel
theorem dX8_sure_16 : decode cX8_sure 16 = .ok (.invokevirtual 28, 3) := by decide +kernel
theorem dX8_sure_19 : decode cX8_sure 19 = .ok (.ifCond .eq 9, 3) := by decide +kernel
theorem dX8_sure_22 : decode cX8_sure 22 = .ok (.iinc 1 1, 3) := by decide +kernel
theorem dX8_sure_25 : decode cX8_sure 25 = .ok (.goto (-23), 3) := by decide +kernel
theorem dX8_sure_28 : decode cX8_sure 28 = .ok (.iload_n 1, 1) := by decide +kernel
theorem dX8_sure_29 : decode cX8_sure 29 = .ok (.ireturn, 1) := by decide +kernel
set_option maxRecDepth 20000 in
theorem ggX8_stays_X8_fall : GoodIn wsX8_stays wsX8_fall := goodIn_r _ [7, 8, 9, 10, 6, 11, 2, 1, 12, 13, 14, 15, 20, 21] (by decide +kernel) (by decide +kernel)
set_option maxRecDepth 20000 in
theorem gX8_stays_X8_fall : GoodIn wsX8_stays (wsV RX8 32 RX8 yX8_fall wsX8_fall) := goodIn_app (goodIn_of _ (by decide +kernel)) ggX8_stays_X8_fall
set_option maxRecDepth 20000 in
theorem ggX8_stays_X8_rise : GoodIn wsX8_stays wsX8_rise := goodIn_r _ [19, 8, 9, 10, 6, 11, 2, 1, 12, 13, 14, 15, 20, 21] (by decide +kernel) (by decide +kernel)
set_option maxRecDepth 20000 in
theorem gX8_stays_X8_rise : GoodIn wsX8_stays (wsV RX8 36 RX8 yX8_rise wsX8_rise) := goodIn_app (goodIn_of _ (by decide +kernel)) ggX8_stays_X8_rise
theorem dX8_stays_0 : decode cX8_stays 0 = .ok (.aload_n 0, 1) := by decide +kernel
theorem dX8_stays_1 : decode cX8_stays 1 = .ok (.getfield 9, 3) := by decide +kernel
theorem dX8_stays_4 : decode cX8_stays 4 = .ok (.aload_n 0, 1) := by decide +kernel
theorem dX8_stays_5 : decode cX8_stays 5 = .ok (.getfield 15, 3) := by decide +kernel
theorem dX8_stays_8 : decode cX8_stays 8 = .ok (.iconst 1, 1) := by decide +kernel
theorem dX8_stays_9 : decode cX8_stays 9 = .ok (.isub, 1) := by decide +kernel
theorem dX8_stays_10 : decode cX8_stays 10 = .ok (.iaload, 1) := by decide +kernel
theorem dX8_stays_11 : decode cX8_stays 11 = .ok (.istore_n 2, 1) := by decide +kernel
theorem dX8_stays_12 : decode cX8_stays 12 = .ok (.iload_n 2, 1) := by decide +kernel
theorem dX8_stays_13 : decode cX8_stays 13 = .ok (.sipush 500, 3) := by decide +kernel
theorem dX8_stays_16 : decode cX8_stays 16 = .ok (.if_icmp .lt 24, 3) := by decide +kernel
theorem dX8_stays_19 : decode cX8_stays 19 = .ok (.iload_n 2, 1) := by decide +kernel
theorem dX8_stays_20 : decode cX8_stays 20 = .ok (.aload_n 0, 1) := by decide +kernel
theorem dX8_stays_21 : decode cX8_stays 21 = .ok (.iload_n 1, 1) := by decide +kernel
theorem dX8_stays_22 : decode cX8_stays 22 = .ok (.invokevirtual 32, 3) := by decide +kernel
theorem dX8_stays_25 : decode cX8_stays 25 = .ok (.isub, 1) := by decide +kernel
theorem dX8_stays_26 : decode cX8_stays 26 = .ok (.sipush 500, 3) := by decide +kernel
theorem dX8_stays_29 : decode cX8_stays 29 = .ok (.if_icmp .lt 7, 3) := by decide +kernel
theorem dX8_stays_32 : decode cX8_stays 32 = .ok (.iconst 1, 1) := by decide +kernel
theorem dX8_stays_33 : decode cX8_stays 33 = .ok (.goto 25, 3) := by decide +kernel
theorem dX8_stays_36 : decode cX8_stays 36 = .ok (.iconst 0, 1) := by decide +kernel
theorem dX8_stays_37 : decode cX8_stays 37 = .ok (.goto 21, 3) := by decide +kernel
theorem dX8_stays_40 : decode cX8_stays 40 = .ok (.iload_n 2, 1) := by decide +kernel
theorem dX8_stays_41 : decode cX8_stays 41 = .ok (.aload_n 0, 1) := by decide +kernel
theorem dX8_stays_42 : decode cX8_stays 42 = .ok (.iload_n 1, 1) := by decide +kernel
theorem dX8_stays_43 : decode cX8_stays 43 = .ok (.invokevirtual 36, 3) := by decide +kernel
theorem dX8_stays_46 : decode cX8_stays 46 = .ok (.iadd, 1) := by decide +kernel
theorem dX8_stays_47 : decode cX8_stays 47 = .ok (.sipush 500, 3) := by decide +kernel
theorem dX8_stays_50 : decode cX8_stays 50 = .ok (.if_icmp .ge 7, 3) := by decide +kernel
theorem dX8_stays_53 : decode cX8_stays 53 = .ok (.iconst 1, 1) := by decide +kernel
theorem dX8_stays_54 : decode cX8_stays 54 = .ok (.goto 4, 3) := by decide +kernel
theorem dX8_stays_57 : decode cX8_stays 57 = .ok (.iconst 0, 1) := by decide +kernel
theorem dX8_stays_58 : decode cX8_stays 58 = .ok (.ireturn, 1) := by decide +kernel
theorem dX8_empty_0 : decode cX8_empty 0 = .ok (.aload_n 0, 1) := by decide +kernel
theorem dX8_empty_1 : decode cX8_empty 1 = .ok (.iconst 0, 1) := by decide +kernel
theorem dX8_empty_2 : decode cX8_empty 2 = .ok (.putfield 15, 3) := by decide +kernel
theorem dX8_empty_5 : decode cX8_empty 5 = .ok (.return_, 1) := by decide +kernel
set_option maxRecDepth 20000 in
theorem ggX9_init_X4_init : GoodIn wsX9_init wsX4_init := goodIn_r _ [41, 42, 2, 3, 36, 43, 44, 45, 46, 47, 48, 95, 96] (by decide +kernel) (by decide +kernel)
set_option maxRecDepth 20000 in
theorem gX9_init_X4_init : GoodIn wsX9_init (wsX4_init) := ggX9_init_X4_init
set_option maxRecDepth 20000 in
theorem ggX9_init_X6_init : GoodIn wsX9_init wsX6_init := goodIn_r _ [50, 51, 2, 3, 36, 52, 53, 54, 55, 56, 57, 58, 107, 108, 109, 110, 111, 112] (by decide +kernel) (by decide +kernel)
set_option maxRecDepth 20000 in
theorem gX9_init_X6_init_n18 : GoodIn wsX9_init (wsX6_init) := ggX9_init_X6_init
set_option maxRecDepth 20000 in
theorem ggX9_init_X2_init : GoodIn wsX9_init wsX2_init := goodIn_r _ [60, 61, 2, 3, 36, 62, 63, 64, 65, 66, 113, 114, 115, 116, 117] (by decide +kernel) (by decide +kernel)
set_option maxRecDepth 20000 in
theorem gX9_init_X2_init_n25 : GoodIn wsX9_init (wsX2_init) := ggX9_init_X2_init
set_option maxRecDepth 20000 in
theorem ggX9_init_X0_init : GoodIn wsX9_init wsX0_init := goodIn_r _ [68, 69, 2, 3, 36, 70, 71, 72, 118, 119, 120] (by decide +kernel) (by decide +kernel)
set_option maxRecDepth 20000 in
theorem gX9_init_X0_init_n32 : GoodIn wsX9_init (wsX0_init) := ggX9_init_X0_init
set_option maxRecDepth 20000 in
theorem ggX9_init_X5_init : GoodIn wsX9_init wsX5_init := goodIn_r _ [75, 76, 2, 3, 77, 78, 79, 121, 122] (by decide +kernel) (by decide +kernel)
set_option maxRecDepth 20000 in
theorem gX9_init_X5_init : GoodIn wsX9_init (wsX5_init) := ggX9_init_X5_init
set_option maxRecDepth 20000 in
theorem ggX9_init_X8_init : GoodIn wsX9_init wsX8_init := goodIn_r _ [81, 82, 2, 3, 36, 83, 84, 123, 124] (by decide +kernel) (by decide +kernel)
set_option maxRecDepth 20000 in
theorem gX9_init_X8_init_n46 : GoodIn wsX9_init (wsX8_init) := ggX9_init_X8_init
set_option maxRecDepth 20000 in
theorem ggX9_init_X3_init : GoodIn wsX9_init wsX3_init := goodIn_r _ [86, 87, 2, 3, 36, 88, 89, 125, 126] (by decide +kernel) (by decide +kernel)
set_option maxRecDepth 20000 in
theorem gX9_init_X3_init_n53 : GoodIn wsX9_init (wsX3_init) := ggX9_init_X3_init
set_option maxRecDepth 20000 in
theorem ggX9_init_X1_init : GoodIn wsX9_init wsX1_init := goodIn_r _ [91, 92, 2, 3, 93, 94, 127, 128] (by decide +kernel) (by decide +kernel)
set_option maxRecDepth 20000 in
theorem gX9_init_X1_init_n60 : GoodIn wsX9_init (wsX1_init) := ggX9_init_X1_init
theorem dX9_init_0 : decode cX9_init 0 = .ok (.aload_n 0, 1) := by decide +kernel
theorem dX9_init_1 : decode cX9_init 1 = .ok (.invokespecial 1, 3) := by decide +kernel
theorem dX9_init_4 : decode cX9_init 4 = .ok (.aload_n 0, 1) := by decide +kernel
theorem dX9_init_5 : decode cX9_init 5 = .ok (.new 7, 3) := by decide +kernel
theorem dX9_init_8 : decode cX9_init 8 = .ok (.dup, 1) := by decide +kernel
theorem dX9_init_9 : decode cX9_init 9 = .ok (.invokespecial 9, 3) := by decide +kernel
theorem dX9_init_12 : decode cX9_init 12 = .ok (.putfield 10, 3) := by decide +kernel
theorem dX9_init_15 : decode cX9_init 15 = .ok (.aload_n 0, 1) := by decide +kernel
theorem dX9_init_16 : decode cX9_init 16 = .ok (.new 16, 3) := by decide +kernel
theorem dX9_init_19 : decode cX9_init 19 = .ok (.dup, 1) := by decide +kernel
theorem dX9_init_20 : decode cX9_init 20 = .ok (.invokespecial 18, 3) := by decide +kernel
theorem dX9_init_23 : decode cX9_init 23 = .ok (.putfield 19, 3) := by decide +kernel
theorem dX9_init_26 : decode cX9_init 26 = .ok (.aload_n 0, 1) := by decide +kernel
theorem dX9_init_27 : decode cX9_init 27 = .ok (.new 23, 3) := by decide +kernel
theorem dX9_init_30 : decode cX9_init 30 = .ok (.dup, 1) := by decide +kernel
theorem dX9_init_31 : decode cX9_init 31 = .ok (.invokespecial 25, 3) := by decide +kernel
theorem dX9_init_34 : decode cX9_init 34 = .ok (.putfield 26, 3) := by decide +kernel
theorem dX9_init_37 : decode cX9_init 37 = .ok (.aload_n 0, 1) := by decide +kernel
theorem dX9_init_38 : decode cX9_init 38 = .ok (.new 30, 3) := by decide +kernel
theorem dX9_init_41 : decode cX9_init 41 = .ok (.dup, 1) := by decide +kernel
theorem dX9_init_42 : decode cX9_init 42 = .ok (.invokespecial 32, 3) := by decide +kernel
theorem dX9_init_45 : decode cX9_init 45 = .ok (.putfield 33, 3) := by decide +kernel
theorem dX9_init_48 : decode cX9_init 48 = .ok (.aload_n 0, 1) := by decide +kernel
theorem dX9_init_49 : decode cX9_init 49 = .ok (.new 37, 3) := by decide +kernel
theorem dX9_init_52 : decode cX9_init 52 = .ok (.dup, 1) := by decide +kernel
theorem dX9_init_53 : decode cX9_init 53 = .ok (.invokespecial 39, 3) := by decide +kernel
theorem dX9_init_56 : decode cX9_init 56 = .ok (.putfield 40, 3) := by decide +kernel
theorem dX9_init_59 : decode cX9_init 59 = .ok (.aload_n 0, 1) := by decide +kernel
theorem dX9_init_60 : decode cX9_init 60 = .ok (.new 44, 3) := by decide +kernel
theorem dX9_init_63 : decode cX9_init 63 = .ok (.dup, 1) := by decide +kernel
theorem dX9_init_64 : decode cX9_init 64 = .ok (.invokespecial 46, 3) := by decide +kernel
theorem dX9_init_67 : decode cX9_init 67 = .ok (.putfield 47, 3) := by decide +kernel
theorem dX9_init_70 : decode cX9_init 70 = .ok (.aload_n 0, 1) := by decide +kernel
theorem dX9_init_71 : decode cX9_init 71 = .ok (.new 51, 3) := by decide +kernel
theorem dX9_init_74 : decode cX9_init 74 = .ok (.dup, 1) := by decide +kernel
theorem dX9_init_75 : decode cX9_init 75 = .ok (.invokespecial 53, 3) := by decide +kernel
theorem dX9_init_78 : decode cX9_init 78 = .ok (.putfield 54, 3) := by decide +kernel
theorem dX9_init_81 : decode cX9_init 81 = .ok (.aload_n 0, 1) := by decide +kernel
theorem dX9_init_82 : decode cX9_init 82 = .ok (.new 58, 3) := by decide +kernel
theorem dX9_init_85 : decode cX9_init 85 = .ok (.dup, 1) := by decide +kernel
theorem dX9_init_86 : decode cX9_init 86 = .ok (.invokespecial 60, 3) := by decide +kernel
theorem dX9_init_89 : decode cX9_init 89 = .ok (.putfield 61, 3) := by decide +kernel
theorem dX9_init_92 : decode cX9_init 92 = .ok (.aload_n 0, 1) := by decide +kernel
theorem dX9_init_93 : decode cX9_init 93 = .ok (.iconst 3, 1) := by decide +kernel
theorem dX9_init_94 : decode cX9_init 94 = .ok (.newarray .int, 2) := by decide +kernel
theorem dX9_init_96 : decode cX9_init 96 = .ok (.dup, 1) := by decide +kernel
theorem dX9_init_97 : decode cX9_init 97 = .ok (.iconst 0, 1) := by decide +kernel
theorem dX9_init_98 : decode cX9_init 98 = .ok (.iconst 1, 1) := by decide +kernel
theorem dX9_init_99 : decode cX9_init 99 = .ok (.iastore, 1) := by decide +kernel
theorem dX9_init_100 : decode cX9_init 100 = .ok (.dup, 1) := by decide +kernel
theorem dX9_init_101 : decode cX9_init 101 = .ok (.iconst 1, 1) := by decide +kernel
theorem dX9_init_102 : decode cX9_init 102 = .ok (.iconst 5, 1) := by decide +kernel
theorem dX9_init_103 : decode cX9_init 103 = .ok (.iastore, 1) := by decide +kernel
theorem dX9_init_104 : decode cX9_init 104 = .ok (.dup, 1) := by decide +kernel
theorem dX9_init_105 : decode cX9_init 105 = .ok (.iconst 2, 1) := by decide +kernel
theorem dX9_init_106 : decode cX9_init 106 = .ok (.bipush 90, 2) := by decide +kernel
theorem dX9_init_108 : decode cX9_init 108 = .ok (.iastore, 1) := by decide +kernel
theorem dX9_init_109 : decode cX9_init 109 = .ok (.putfield 65, 3) := by decide +kernel
theorem dX9_init_112 : decode cX9_init 112 = .ok (.aload_n 0, 1) := by decide +kernel
theorem dX9_init_113 : decode cX9_init 113 = .ok (.lconst 0, 1) := by decide +kernel
theorem dX9_init_114 : decode cX9_init 114 = .ok (.putfield 69, 3) := by decide +kernel
theorem dX9_init_117 : decode cX9_init 117 = .ok (.return_, 1) := by decide +kernel
set_option maxRecDepth 20000 in
theorem ggX9_land_X9_isLand : GoodIn wsX9_land wsX9_isLand := goodIn_r _ [5, 6, 7, 4, 8] (by decide +kernel) (by decide +kernel)
set_option maxRecDepth 20000 in
theorem gX9_land_X9_isLand : GoodIn wsX9_land (va_wsS RX9 73 yX9_isLand wsX9_isLand) := goodIn_app (goodIn_of _ (by decide +kernel)) ggX9_land_X9_isLand
set_option maxRecDepth 20000 in
theorem ggX9_land_X9_isGroup : GoodIn wsX9_land wsX9_isGroup := goodIn_r _ [11, 6, 7, 4, 8] (by decide +kernel) (by decide +kernel)
set_option maxRecDepth 20000 in
theorem gX9_land_X9_isGroup : GoodIn wsX9_land (va_wsS RX9 77 yX9_isGroup wsX9_isGroup) := goodIn_app (goodIn_of _ (by decide +kernel)) ggX9_land_X9_isGroup
set_option maxRecDepth 20000 in
theorem ggX9_land_X9_within : GoodIn wsX9_land wsX9_within := goodIn_r _ [8] (by decide +kernel) (by decide +kernel)
set_option maxRecDepth 20000 in
theorem gX9_land_X9_within : GoodIn wsX9_land (va_wsS RX9 80 yX9_within wsX9_within) := goodIn_app (goodIn_of _ (by decide +kernel)) ggX9_land_X9_within
set_option maxRecDepth 20000 in
theorem ggX9_land_X4_settle : GoodIn wsX9_land wsX4_settle := goodIn_r _ [16, 17, 18, 19, 20, 15, 21, 22, 23, 24, 25, 26, 27, 28, 29, 40, 41] (by decide +kernel) (by decide +kernel)
set_option maxRecDepth 20000 in
theorem gX9_land_X4_settle : GoodIn wsX9_land (wsV RX9 84 RX4 yX4_settle wsX4_settle) := goodIn_app (goodIn_of _ (by decide +kernel)) ggX9_land_X4_settle
theorem dX9_land_0 : decode cX9_land 0 = .ok (.iload_n 1, 1) := by decide +kernel
theorem dX9_land_1 : decode cX9_land 1 = .ok (.invokestatic 73, 3) := by decide +kernel
theorem dX9_land_4 : decode cX9_land 4 = .ok (.ifCond .eq 20, 3) := by decide +kernel
theorem dX9_land_7 : decode cX9_land 7 = .ok (.iload_n 2, 1) := by decide +kernel
theorem dX9_land_8 : decode cX9_land 8 = .ok (.invokestatic 77, 3) := by decide +kernel
theorem dX9_land_11 : decode cX9_land 11 = .ok (.ifCond .eq 13, 3) := by decide +kernel
theorem dX9_land_14 : decode cX9_land 14 = .ok (.iload_n 3, 1) := by decide +kernel
theorem dX9_land_15 : decode cX9_land 15 = .ok (.iconst 0, 1) := by decide +kernel
theorem dX9_land_16 : decode cX9_land 16 = .ok (.bipush 50, 2) := by decide +kernel
theorem dX9_land_18 : decode cX9_land 18 = .ok (.invokestatic 80, 3) := by decide +kernel
theorem dX9_land_21 : decode cX9_land 21 = .ok (.ifCond .ne 5, 3) := by decide +kernel
theorem dX9_land_24 : decode cX9_land 24 = .ok (.iconst (-1), 1) := by decide +kernel
theorem dX9_land_25 : decode cX9_land 25 = .ok (.ireturn, 1) := by decide +kernel
theorem dX9_land_26 : decode cX9_land 26 = .ok (.aload_n 0, 1) := by decide +kernel
theorem dX9_land_27 : decode cX9_land 27 = .ok (.getfield 10, 3) := by decide +kernel
theorem dX9_land_30 : decode cX9_land 30 = .ok (.iload_n 1, 1) := by decide +kernel
theorem dX9_land_31 : decode cX9_land 31 = .ok (.iload_n 2, 1) := by decide +kernel
theorem dX9_land_32 : decode cX9_land 32 = .ok (.iload_n 3, 1) := by decide +kernel
theorem dX9_land_33 : decode cX9_land 33 = .ok (.invokevirtual 84, 3) := by decide +kernel
theorem dX9_land_36 : decode cX9_land 36 = .ok (.ireturn, 1) := by decide +kernel
set_option maxRecDepth 20000 in
theorem ggX9_rate_X9_isGroup : GoodIn wsX9_rate wsX9_isGroup := goodIn_r _ [5, 6, 7, 4, 8] (by decide +kernel) (by decide +kernel)
set_option maxRecDepth 20000 in
theorem gX9_rate_X9_isGroup : GoodIn wsX9_rate (va_wsS RX9 77 yX9_isGroup wsX9_isGroup) := goodIn_app (goodIn_of _ (by decide +kernel)) ggX9_rate_X9_isGroup
set_option maxRecDepth 20000 in
theorem ggX9_rate_X9_within : GoodIn wsX9_rate wsX9_within := goodIn_r _ [8] (by decide +kernel) (by decide +kernel)
set_option maxRecDepth 20000 in
theorem gX9_rate_X9_within : GoodIn wsX9_rate (va_wsS RX9 80 yX9_within wsX9_within) := goodIn_app (goodIn_of _ (by decide +kernel)) ggX9_rate_X9_within
set_option maxRecDepth 20000 in
theorem ggX9_rate_X4_changeRate : GoodIn wsX9_rate wsX4_changeRate := goodIn_r _ [13, 14, 25, 26] (by decide +kernel) (by decide +kernel)
set_option maxRecDepth 20000 in
theorem gX9_rate_X4_changeRate : GoodIn wsX9_rate (wsV RX9 88 RX4 yX4_changeRate wsX4_changeRate) := goodIn_app (goodIn_of _ (by decide +kernel)) ggX9_rate_X4_changeRate
theorem dX9_rate_0 : decode cX9_rate 0 = .ok (.iload_n 1, 1) := by decide +kernel
theorem dX9_rate_1 : decode cX9_rate 1 = .ok (.invokestatic 77, 3) := by decide +kernel
theorem dX9_rate_4 : decode cX9_rate 4 = .ok (.ifCond .eq 13, 3) := by decide +kernel
theorem dX9_rate_7 : decode cX9_rate 7 = .ok (.iload_n 2, 1) := by decide +kernel
theorem dX9_rate_8 : decode cX9_rate 8 = .ok (.iconst 0, 1) := by decide +kernel
theorem dX9_rate_9 : decode cX9_rate 9 = .ok (.bipush 100, 2) := by decide +kernel
theorem dX9_rate_11 : decode cX9_rate 11 = .ok (.invokestatic 80, 3) := by decide +kernel
theorem dX9_rate_14 : decode cX9_rate 14 = .ok (.ifCond .ne 5, 3) := by decide +kernel
theorem dX9_rate_17 : decode cX9_rate 17 = .ok (.iconst (-1), 1) := by decide +kernel
theorem dX9_rate_18 : decode cX9_rate 18 = .ok (.ireturn, 1) := by decide +kernel
theorem dX9_rate_19 : decode cX9_rate 19 = .ok (.aload_n 0, 1) := by decide +kernel
theorem dX9_rate_20 : decode cX9_rate 20 = .ok (.getfield 10, 3) := by decide +kernel
theorem dX9_rate_23 : decode cX9_rate 23 = .ok (.iload_n 1, 1) := by decide +kernel
theorem dX9_rate_24 : decode cX9_rate 24 = .ok (.iload_n 2, 1) := by decide +kernel
theorem dX9_rate_25 : decode cX9_rate 25 = .ok (.invokevirtual 88, 3) := by decide +kernel
theorem dX9_rate_28 : decode cX9_rate 28 = .ok (.ireturn, 1) := by decide +kernel
set_option maxRecDepth 20000 in
theorem ggX9_people_X9_isLand : GoodIn wsX9_people wsX9_isLand := goodIn_r _ [6, 7, 8, 5, 9] (by decide +kernel) (by decide +kernel)
set_option maxRecDepth 20000 in
theorem gX9_people_X9_isLand : GoodIn wsX9_people (va_wsS RX9 73 yX9_isLand wsX9_isLand) := goodIn_app (goodIn_of _ (by decide +kernel)) ggX9_people_X9_isLand
set_option maxRecDepth 20000 in
theorem ggX9_people_X9_within : GoodIn wsX9_people wsX9_within := goodIn_r _ [9] (by decide +kernel) (by decide +kernel)
set_option maxRecDepth 20000 in
theorem gX9_people_X9_within : GoodIn wsX9_people (va_wsS RX9 80 yX9_within wsX9_within) := goodIn_app (goodIn_of _ (by decide +kernel)) ggX9_people_X9_within
set_option maxRecDepth 20000 in
theorem ggX9_people_X4_having : GoodIn wsX9_people wsX4_having := goodIn_r _ [14, 15, 16, 17, 13, 18, 19, 20, 21, 22, 23, 34, 35] (by decide +kernel) (by decide +kernel)
set_option maxRecDepth 20000 in
theorem gX9_people_X4_having : GoodIn wsX9_people (wsV RX9 95 RX4 yX4_having wsX4_having) := goodIn_app (goodIn_of _ (by decide +kernel)) ggX9_people_X4_having
theorem dX9_people_0 : decode cX9_people 0 = .ok (.iload_n 1, 1) := by decide +kernel
theorem dX9_people_1 : decode cX9_people 1 = .ok (.invokestatic 73, 3) := by decide +kernel
theorem dX9_people_4 : decode cX9_people 4 = .ok (.ifCond .eq 17, 3) := by decide +kernel
theorem dX9_people_7 : decode cX9_people 7 = .ok (.iload_n 2, 1) := by decide +kernel
theorem dX9_people_8 : decode cX9_people 8 = .ok (.iconst 0, 1) := by decide +kernel
theorem dX9_people_9 : decode cX9_people 9 = .ok (.getstatic 92, 3) := by decide +kernel
theorem dX9_people_12 : decode cX9_people 12 = .ok (.arraylength, 1) := by decide +kernel
theorem dX9_people_13 : decode cX9_people 13 = .ok (.iconst 1, 1) := by decide +kernel
theorem dX9_people_14 : decode cX9_people 14 = .ok (.isub, 1) := by decide +kernel
theorem dX9_people_15 : decode cX9_people 15 = .ok (.invokestatic 80, 3) := by decide +kernel
theorem dX9_people_18 : decode cX9_people 18 = .ok (.ifCond .ne 5, 3) := by decide +kernel
theorem dX9_people_21 : decode cX9_people 21 = .ok (.iconst (-1), 1) := by decide +kernel
theorem dX9_people_22 : decode cX9_people 22 = .ok (.ireturn, 1) := by decide +kernel
theorem dX9_people_23 : decode cX9_people 23 = .ok (.aload_n 0, 1) := by decide +kernel
theorem dX9_people_24 : decode cX9_people 24 = .ok (.getfield 10, 3) := by decide +kernel
theorem dX9_people_27 : decode cX9_people 27 = .ok (.iload_n 1, 1) := by decide +kernel
theorem dX9_people_28 : decode cX9_people 28 = .ok (.getstatic 92, 3) := by decide +kernel
theorem dX9_people_31 : decode cX9_people 31 = .ok (.iload_n 2, 1) := by decide +kernel
theorem dX9_people_32 : decode cX9_people 32 = .ok (.iaload, 1) := by decide +kernel
theorem dX9_people_33 : decode cX9_people 33 = .ok (.invokevirtual 95, 3) := by decide +kernel
theorem dX9_people_36 : decode cX9_people 36 = .ok (.ireturn, 1) := by decide +kernel
set_option maxRecDepth 20000 in
theorem ggX9_posted_X9_isLand : GoodIn wsX9_posted wsX9_isLand := goodIn_r _ [7, 8, 9, 6, 10] (by decide +kernel) (by decide +kernel)
set_option maxRecDepth 20000 in
theorem gX9_posted_X9_isLand : GoodIn wsX9_posted (va_wsS RX9 73 yX9_isLand wsX9_isLand) := goodIn_app (goodIn_of _ (by decide +kernel)) ggX9_posted_X9_isLand
set_option maxRecDepth 20000 in
theorem ggX9_posted_X9_within : GoodIn wsX9_posted wsX9_within := goodIn_r _ [10] (by decide +kernel) (by decide +kernel)
set_option maxRecDepth 20000 in
theorem gX9_posted_X9_within : GoodIn wsX9_posted (va_wsS RX9 80 yX9_within wsX9_within) := goodIn_app (goodIn_of _ (by decide +kernel)) ggX9_posted_X9_within
set_option maxRecDepth 20000 in
theorem ggX9_posted_X4_back : GoodIn wsX9_posted wsX4_back := goodIn_r _ [15, 16, 17, 18, 19, 14, 20, 21, 76, 77] (by decide +kernel) (by decide +kernel)
set_option maxRecDepth 20000 in
theorem gX9_posted_X4_back : GoodIn wsX9_posted (wsV RX9 100 RX4 yX4_back wsX4_back) := goodIn_app (goodIn_of _ (by decide +kernel)) ggX9_posted_X4_back
set_option maxRecDepth 20000 in
theorem ggX9_posted_X9_shareBack : GoodIn wsX9_posted wsX9_shareBack := goodIn_r _ [25, 3, 2, 11, 12, 13, 14, 15, 16, 17, 18, 19, 20, 21, 26, 27, 28, 29, 30, 31, 32, 33, 34, 35, 36, 37, 38, 39, 66, 67, 68, 69, 70, 71, 72, 73, 74, 75, 76, 77, 78, 79] (by decide +kernel) (by decide +kernel)
set_option maxRecDepth 20000 in
theorem gX9_posted_X9_shareBack : GoodIn wsX9_posted (wsV RX9 103 RX9 yX9_shareBack wsX9_shareBack) := goodIn_app (goodIn_of _ (by decide +kernel)) ggX9_posted_X9_shareBack
set_option maxRecDepth 20000 in
theorem ggX9_posted_X1_part : GoodIn wsX9_posted wsX1_part := goodIn_r _ [43, 44, 35, 36, 45, 46, 47, 29, 48, 78, 79] (by decide +kernel) (by decide +kernel)
set_option maxRecDepth 20000 in
theorem gX9_posted_X1_part : GoodIn wsX9_posted (wsV RX9 107 RX1 yX1_part wsX1_part) := goodIn_app (goodIn_of _ (by decide +kernel)) ggX9_posted_X1_part
set_option maxRecDepth 20000 in
theorem ggX9_posted_X9_lean : GoodIn wsX9_posted wsX9_lean := goodIn_r _ [52, 3, 2, 22, 23, 24, 6, 25, 11, 12, 13, 14, 15, 16, 17, 18, 19, 20, 21, 26, 27, 28, 29, 30, 31, 32, 33, 34, 35, 36, 37, 38, 39, 53, 54, 55, 56, 57, 58, 59, 60, 61, 62, 63, 64, 65, 66, 67, 68, 69, 70, 71, 72, 73, 74, 75, 76, 77, 78, 79] (by decide +kernel) (by decide +kernel)
set_option maxRecDepth 20000 in
theorem gX9_posted_X9_lean : GoodIn wsX9_posted (wsV RX9 111 RX9 yX9_lean wsX9_lean) := goodIn_app (goodIn_of _ (by decide +kernel)) ggX9_posted_X9_lean
theorem dX9_posted_0 : decode cX9_posted 0 = .ok (.iload_n 1, 1) := by decide +kernel
theorem dX9_posted_1 : decode cX9_posted 1 = .ok (.invokestatic 73, 3) := by decide +kernel
theorem dX9_posted_4 : decode cX9_posted 4 = .ok (.ifCond .eq 12, 3) := by decide +kernel
theorem dX9_posted_7 : decode cX9_posted 7 = .ok (.iload_n 2, 1) := by decide +kernel
theorem dX9_posted_8 : decode cX9_posted 8 = .ok (.iconst 0, 1) := by decide +kernel
theorem dX9_posted_9 : decode cX9_posted 9 = .ok (.iconst 5, 1) := by decide +kernel
theorem dX9_posted_10 : decode cX9_posted 10 = .ok (.invokestatic 80, 3) := by decide +kernel
theorem dX9_posted_13 : decode cX9_posted 13 = .ok (.ifCond .ne 7, 3) := by decide +kernel
theorem dX9_posted_16 : decode cX9_posted 16 = .ok (.ldc2_w 98, 3) := by decide +kernel
theorem dX9_posted_19 : decode cX9_posted 19 = .ok (.lreturn, 1) := by decide +kernel
theorem dX9_posted_20 : decode cX9_posted 20 = .ok (.iload_n 2, 1) := by decide +kernel
theorem dX9_posted_21 : decode cX9_posted 21 = .ok (.ifCond .ne 14, 3) := by decide +kernel
theorem dX9_posted_24 : decode cX9_posted 24 = .ok (.aload_n 0, 1) := by decide +kernel
theorem dX9_posted_25 : decode cX9_posted 25 = .ok (.getfield 10, 3) := by decide +kernel
theorem dX9_posted_28 : decode cX9_posted 28 = .ok (.iload_n 1, 1) := by decide +kernel
theorem dX9_posted_29 : decode cX9_posted 29 = .ok (.iconst 0, 1) := by decide +kernel
theorem dX9_posted_30 : decode cX9_posted 30 = .ok (.invokevirtual 100, 3) := by decide +kernel
theorem dX9_posted_33 : decode cX9_posted 33 = .ok (.i2l, 1) := by decide +kernel
theorem dX9_posted_34 : decode cX9_posted 34 = .ok (.lreturn, 1) := by decide +kernel
theorem dX9_posted_35 : decode cX9_posted 35 = .ok (.iload_n 2, 1) := by decide +kernel
theorem dX9_posted_36 : decode cX9_posted 36 = .ok (.iconst 1, 1) := by decide +kernel
theorem dX9_posted_37 : decode cX9_posted 37 = .ok (.if_icmp .ne 14, 3) := by decide +kernel
theorem dX9_posted_40 : decode cX9_posted 40 = .ok (.aload_n 0, 1) := by decide +kernel
theorem dX9_posted_41 : decode cX9_posted 41 = .ok (.getfield 10, 3) := by decide +kernel
theorem dX9_posted_44 : decode cX9_posted 44 = .ok (.iload_n 1, 1) := by decide +kernel
theorem dX9_posted_45 : decode cX9_posted 45 = .ok (.iconst 1, 1) := by decide +kernel
theorem dX9_posted_46 : decode cX9_posted 46 = .ok (.invokevirtual 100, 3) := by decide +kernel
theorem dX9_posted_49 : decode cX9_posted 49 = .ok (.i2l, 1) := by decide +kernel
theorem dX9_posted_50 : decode cX9_posted 50 = .ok (.lreturn, 1) := by decide +kernel
theorem dX9_posted_51 : decode cX9_posted 51 = .ok (.iload_n 2, 1) := by decide +kernel
theorem dX9_posted_52 : decode cX9_posted 52 = .ok (.iconst 3, 1) := by decide +kernel
theorem dX9_posted_53 : decode cX9_posted 53 = .ok (.if_icmp .gt 19, 3) := by decide +kernel
theorem dX9_posted_56 : decode cX9_posted 56 = .ok (.aload_n 0, 1) := by decide +kernel
theorem dX9_posted_57 : decode cX9_posted 57 = .ok (.iload_n 1, 1) := by decide +kernel
theorem dX9_posted_58 : decode cX9_posted 58 = .ok (.invokevirtual 103, 3) := by decide +kernel
theorem dX9_posted_61 : decode cX9_posted 61 = .ok (.aload_n 0, 1) := by decide +kernel
theorem dX9_posted_62 : decode cX9_posted 62 = .ok (.getfield 61, 3) := by decide +kernel
theorem dX9_posted_65 : decode cX9_posted 65 = .ok (.iload_n 2, 1) := by decide +kernel
theorem dX9_posted_66 : decode cX9_posted 66 = .ok (.iconst 2, 1) := by decide +kernel
theorem dX9_posted_67 : decode cX9_posted 67 = .ok (.isub, 1) := by decide +kernel
theorem dX9_posted_68 : decode cX9_posted 68 = .ok (.invokevirtual 107, 3) := by decide +kernel
theorem dX9_posted_71 : decode cX9_posted 71 = .ok (.lreturn, 1) := by decide +kernel
theorem dX9_posted_72 : decode cX9_posted 72 = .ok (.aload_n 0, 1) := by decide +kernel
theorem dX9_posted_73 : decode cX9_posted 73 = .ok (.iload_n 1, 1) := by decide +kernel
theorem dX9_posted_74 : decode cX9_posted 74 = .ok (.invokevirtual 111, 3) := by decide +kernel
theorem dX9_posted_77 : decode cX9_posted 77 = .ok (.aload_n 0, 1) := by decide +kernel
theorem dX9_posted_78 : decode cX9_posted 78 = .ok (.getfield 61, 3) := by decide +kernel
theorem dX9_posted_81 : decode cX9_posted 81 = .ok (.iload_n 2, 1) := by decide +kernel
theorem dX9_posted_82 : decode cX9_posted 82 = .ok (.iconst 4, 1) := by decide +kernel
theorem dX9_posted_83 : decode cX9_posted 83 = .ok (.isub, 1) := by decide +kernel
theorem dX9_posted_84 : decode cX9_posted 84 = .ok (.invokevirtual 107, 3) := by decide +kernel
theorem dX9_posted_87 : decode cX9_posted 87 = .ok (.lreturn, 1) := by decide +kernel
set_option maxRecDepth 20000 in
theorem ggX9_type_X9_within : GoodIn wsX9_type wsX9_within := goodIn_r _ [5] (by decide +kernel) (by decide +kernel)
set_option maxRecDepth 20000 in
theorem gX9_type_X9_within : GoodIn wsX9_type (va_wsS RX9 80 yX9_within wsX9_within) := goodIn_app (goodIn_of _ (by decide +kernel)) ggX9_type_X9_within
set_option maxRecDepth 20000 in
theorem ggX9_type_X6_append : GoodIn wsX9_type wsX6_append := goodIn_r _ [10, 11, 12, 23, 24, 25, 26, 27, 28] (by decide +kernel) (by decide +kernel)
set_option maxRecDepth 20000 in
theorem gX9_type_X6_append : GoodIn wsX9_type (wsV RX9 114 RX6 yX6_append wsX6_append) := goodIn_app (goodIn_of _ (by decide +kernel)) ggX9_type_X6_append
theorem dX9_type_0 : decode cX9_type 0 = .ok (.iload_n 3, 1) := by decide +kernel
theorem dX9_type_1 : decode cX9_type 1 = .ok (.iconst 1, 1) := by decide +kernel
theorem dX9_type_2 : decode cX9_type 2 = .ok (.bipush 8, 2) := by decide +kernel
theorem dX9_type_4 : decode cX9_type 4 = .ok (.invokestatic 80, 3) := by decide +kernel
theorem dX9_type_7 : decode cX9_type 7 = .ok (.ifCond .ne 5, 3) := by decide +kernel
theorem dX9_type_10 : decode cX9_type 10 = .ok (.iconst (-1), 1) := by decide +kernel
theorem dX9_type_11 : decode cX9_type 11 = .ok (.ireturn, 1) := by decide +kernel
theorem dX9_type_12 : decode cX9_type 12 = .ok (.aload_n 0, 1) := by decide +kernel
theorem dX9_type_13 : decode cX9_type 13 = .ok (.getfield 19, 3) := by decide +kernel
theorem dX9_type_16 : decode cX9_type 16 = .ok (.lload_n 1, 1) := by decide +kernel
theorem dX9_type_17 : decode cX9_type 17 = .ok (.iload_n 3, 1) := by decide +kernel
theorem dX9_type_18 : decode cX9_type 18 = .ok (.invokevirtual 114, 3) := by decide +kernel
theorem dX9_type_21 : decode cX9_type 21 = .ok (.ireturn, 1) := by decide +kernel
set_option maxRecDepth 20000 in
theorem ggX9_clear_X6_empty : GoodIn wsX9_clear wsX6_empty := goodIn_r _ [6, 7, 18, 19, 20, 21, 22, 23] (by decide +kernel) (by decide +kernel)
set_option maxRecDepth 20000 in
theorem gX9_clear_X6_empty : GoodIn wsX9_clear (wsV RX9 118 RX6 yX6_empty wsX6_empty) := goodIn_app (goodIn_of _ (by decide +kernel)) ggX9_clear_X6_empty
theorem dX9_clear_0 : decode cX9_clear 0 = .ok (.aload_n 0, 1) := by decide +kernel
theorem dX9_clear_1 : decode cX9_clear 1 = .ok (.getfield 19, 3) := by decide +kernel
theorem dX9_clear_4 : decode cX9_clear 4 = .ok (.invokevirtual 118, 3) := by decide +kernel
theorem dX9_clear_7 : decode cX9_clear 7 = .ok (.ireturn, 1) := by decide +kernel
set_option maxRecDepth 20000 in
theorem ggX9_habit_X2_learn : GoodIn wsX9_habit wsX2_learn := goodIn_r _ [7, 8, 9, 10, 11, 12, 13, 14, 15, 16, 17, 18, 19, 20, 21, 22, 23, 24, 25, 26, 27, 28, 29, 30, 31, 32, 33, 34, 35, 36, 37, 38, 39, 40, 41, 42, 43, 44, 45, 46, 47, 48, 49, 50, 51, 52, 53, 54, 55, 56, 57, 58, 59, 60, 61, 62, 63, 64, 65, 66, 67, 68, 69, 70, 71, 72, 73, 74, 75, 76, 77, 78, 79, 80, 81, 82, 83, 84, 85, 86, 87, 88, 89, 90, 91, 92, 93, 94, 95, 96, 97, 98, 99, 100, 101, 102, 103, 104, 105, 106, 107, 108, 109, 110, 111, 6, 112, 113, 114, 115, 116, 117, 118, 119, 120, 121, 122, 123, 124, 125, 126, 127, 128, 129, 130, 131, 132, 133, 134, 135, 136, 137, 148, 149, 150, 151, 152, 153, 154, 155, 156, 157, 158] (by decide +kernel) (by decide +kernel)
set_option maxRecDepth 20000 in
theorem gX9_habit_X2_learn : GoodIn wsX9_habit (wsV RX9 122 RX2 yX2_learn wsX2_learn) := goodIn_app (goodIn_of _ (by decide +kernel)) ggX9_habit_X2_learn
theorem dX9_habit_0 : decode cX9_habit 0 = .ok (.aload_n 0, 1) := by decide +kernel
theorem dX9_habit_1 : decode cX9_habit 1 = .ok (.getfield 26, 3) := by decide +kernel
theorem dX9_habit_4 : decode cX9_habit 4 = .ok (.aload_n 0, 1) := by decide +kernel
theorem dX9_habit_5 : decode cX9_habit 5 = .ok (.getfield 19, 3) := by decide +kernel
theorem dX9_habit_8 : decode cX9_habit 8 = .ok (.invokevirtual 122, 3) := by decide +kernel
theorem dX9_habit_11 : decode cX9_habit 11 = .ok (.ireturn, 1) := by decide +kernel
set_option maxRecDepth 20000 in
theorem ggX9_found_X9_isAsking : GoodIn wsX9_found wsX9_isAsking := goodIn_r _ [7, 8, 9, 6, 10, 11, 12, 13] (by decide +kernel) (by decide +kernel)
set_option maxRecDepth 20000 in
theorem gX9_found_X9_isAsking : GoodIn wsX9_found (va_wsS RX9 126 yX9_isAsking wsX9_isAsking) := goodIn_app (goodIn_of _ (by decide +kernel)) ggX9_found_X9_isAsking
set_option maxRecDepth 20000 in
theorem ggX9_found_X9_within : GoodIn wsX9_found wsX9_within := goodIn_r _ [13] (by decide +kernel) (by decide +kernel)
set_option maxRecDepth 20000 in
theorem gX9_found_X9_within : GoodIn wsX9_found (va_wsS RX9 80 yX9_within wsX9_within) := goodIn_app (goodIn_of _ (by decide +kernel)) ggX9_found_X9_within
set_option maxRecDepth 20000 in
theorem ggX9_found_X0_ask : GoodIn wsX9_found wsX0_ask := goodIn_r _ [18, 19, 20, 21, 22, 23, 24, 25, 26, 27, 28, 17, 29, 30, 31, 32, 33, 34, 35, 36, 37, 38, 39, 40, 41, 42, 43, 62, 63, 64, 65, 66, 67, 68, 69, 70, 71] (by decide +kernel) (by decide +kernel)
set_option maxRecDepth 20000 in
theorem gX9_found_X0_ask : GoodIn wsX9_found (wsV RX9 129 RX0 yX0_ask wsX0_ask) := goodIn_app (goodIn_of _ (by decide +kernel)) ggX9_found_X0_ask
set_option maxRecDepth 20000 in
theorem ggX9_found_X0_met : GoodIn wsX9_found wsX0_met := goodIn_r _ [47, 19, 62, 63, 64] (by decide +kernel) (by decide +kernel)
set_option maxRecDepth 20000 in
theorem gX9_found_X0_met : GoodIn wsX9_found (wsV RX9 133 RX0 yX0_met wsX0_met) := goodIn_app (goodIn_of _ (by decide +kernel)) ggX9_found_X0_met
set_option maxRecDepth 20000 in
theorem ggX9_found_X0_metOfGroup : GoodIn wsX9_found wsX0_metOfGroup := goodIn_r _ [51, 19, 62, 63, 64] (by decide +kernel) (by decide +kernel)
set_option maxRecDepth 20000 in
theorem gX9_found_X0_metOfGroup : GoodIn wsX9_found (wsV RX9 136 RX0 yX0_metOfGroup wsX0_metOfGroup) := goodIn_app (goodIn_of _ (by decide +kernel)) ggX9_found_X0_metOfGroup
theorem dX9_found_0 : decode cX9_found 0 = .ok (.iload_n 1, 1) := by decide +kernel
theorem dX9_found_1 : decode cX9_found 1 = .ok (.iload_n 2, 1) := by decide +kernel
theorem dX9_found_2 : decode cX9_found 2 = .ok (.iload_n 3, 1) := by decide +kernel
theorem dX9_found_3 : decode cX9_found 3 = .ok (.invokestatic 126, 3) := by decide +kernel
theorem dX9_found_6 : decode cX9_found 6 = .ok (.ifCond .eq 14, 3) := by decide +kernel
theorem dX9_found_9 : decode cX9_found 9 = .ok (.iload 4, 2) := by decide +kernel
theorem dX9_found_11 : decode cX9_found 11 = .ok (.iconst 0, 1) := by decide +kernel
theorem dX9_found_12 : decode cX9_found 12 = .ok (.bipush 8, 2) := by decide +kernel
theorem dX9_found_14 : decode cX9_found 14 = .ok (.invokestatic 80, 3) := by decide +kernel
theorem dX9_found_17 : decode cX9_found 17 = .ok (.ifCond .ne 5, 3) := by decide +kernel
theorem dX9_found_20 : decode cX9_found 20 = .ok (.iconst (-1), 1) := by decide +kernel
theorem dX9_found_21 : decode cX9_found 21 = .ok (.ireturn, 1) := by decide +kernel
theorem dX9_found_22 : decode cX9_found 22 = .ok (.aload_n 0, 1) := by decide +kernel
theorem dX9_found_23 : decode cX9_found 23 = .ok (.getfield 33, 3) := by decide +kernel
theorem dX9_found_26 : decode cX9_found 26 = .ok (.aload_n 0, 1) := by decide +kernel
theorem dX9_found_27 : decode cX9_found 27 = .ok (.getfield 10, 3) := by decide +kernel
theorem dX9_found_30 : decode cX9_found 30 = .ok (.iload_n 1, 1) := by decide +kernel
theorem dX9_found_31 : decode cX9_found 31 = .ok (.aload_n 0, 1) := by decide +kernel
theorem dX9_found_32 : decode cX9_found 32 = .ok (.getfield 26, 3) := by decide +kernel
theorem dX9_found_35 : decode cX9_found 35 = .ok (.iload_n 2, 1) := by decide +kernel
theorem dX9_found_36 : decode cX9_found 36 = .ok (.iload_n 3, 1) := by decide +kernel
theorem dX9_found_37 : decode cX9_found 37 = .ok (.invokevirtual 129, 3) := by decide +kernel
theorem dX9_found_40 : decode cX9_found 40 = .ok (.iload 4, 2) := by decide +kernel
theorem dX9_found_42 : decode cX9_found 42 = .ok (.bipush 8, 2) := by decide +kernel
theorem dX9_found_44 : decode cX9_found 44 = .ok (.if_icmp .ne 15, 3) := by decide +kernel
theorem dX9_found_47 : decode cX9_found 47 = .ok (.aload_n 0, 1) := by decide +kernel
theorem dX9_found_48 : decode cX9_found 48 = .ok (.getfield 33, 3) := by decide +kernel
theorem dX9_found_51 : decode cX9_found 51 = .ok (.iconst 0, 1) := by decide +kernel
theorem dX9_found_52 : decode cX9_found 52 = .ok (.iconst 0, 1) := by decide +kernel
theorem dX9_found_53 : decode cX9_found 53 = .ok (.invokevirtual 133, 3) := by decide +kernel
theorem dX9_found_56 : decode cX9_found 56 = .ok (.goto 12, 3) := by decide +kernel
theorem dX9_found_59 : decode cX9_found 59 = .ok (.aload_n 0, 1) := by decide +kernel
theorem dX9_found_60 : decode cX9_found 60 = .ok (.getfield 33, 3) := by decide +kernel
theorem dX9_found_63 : decode cX9_found 63 = .ok (.iload 4, 2) := by decide +kernel
theorem dX9_found_65 : decode cX9_found 65 = .ok (.invokevirtual 136, 3) := by decide +kernel
theorem dX9_found_68 : decode cX9_found 68 = .ok (.ireturn, 1) := by decide +kernel
set_option maxRecDepth 20000 in
theorem ggX9_weighed_X9_isAsking : GoodIn wsX9_weighed wsX9_isAsking := goodIn_r _ [9, 10, 11, 8, 12, 13, 14, 15] (by decide +kernel) (by decide +kernel)
set_option maxRecDepth 20000 in
theorem gX9_weighed_X9_isAsking : GoodIn wsX9_weighed (va_wsS RX9 126 yX9_isAsking wsX9_isAsking) := goodIn_app (goodIn_of _ (by decide +kernel)) ggX9_weighed_X9_isAsking
set_option maxRecDepth 20000 in
theorem ggX9_weighed_X9_within : GoodIn wsX9_weighed wsX9_within := goodIn_r _ [15] (by decide +kernel) (by decide +kernel)
set_option maxRecDepth 20000 in
theorem gX9_weighed_X9_within : GoodIn wsX9_weighed (va_wsS RX9 80 yX9_within wsX9_within) := goodIn_app (goodIn_of _ (by decide +kernel)) ggX9_weighed_X9_within
set_option maxRecDepth 20000 in
theorem ggX9_weighed_X0_ask : GoodIn wsX9_weighed wsX0_ask := goodIn_r _ [20, 21, 22, 23, 24, 25, 26, 27, 28, 29, 30, 19, 31, 32, 33, 34, 35, 36, 37, 38, 39, 40, 41, 42, 43, 44, 45, 105, 106, 107, 108, 109, 110, 111, 112, 113, 114] (by decide +kernel) (by decide +kernel)
set_option maxRecDepth 20000 in
theorem gX9_weighed_X0_ask : GoodIn wsX9_weighed (wsV RX9 129 RX0 yX0_ask wsX0_ask) := goodIn_app (goodIn_of _ (by decide +kernel)) ggX9_weighed_X0_ask
set_option maxRecDepth 20000 in
theorem ggX9_weighed_X9_weigh : GoodIn wsX9_weighed wsX9_weigh := goodIn_r _ [49, 5, 3, 50, 51, 52, 39, 53, 54, 55, 56, 57, 58, 37, 38, 40, 41, 59, 60, 61, 62, 63, 64, 65, 34, 66, 67, 68, 69, 70, 71, 72, 73, 74, 8, 75, 2, 76, 77, 78, 79, 19, 80, 21, 81, 82, 83, 84, 85, 95, 96, 97, 98, 99, 100, 101, 102, 103, 104, 113, 114, 115, 116, 105, 106, 107] (by decide +kernel) (by decide +kernel)
set_option maxRecDepth 20000 in
theorem gX9_weighed_X9_weigh : GoodIn wsX9_weighed (wsV RX9 140 RX9 yX9_weigh wsX9_weigh) := goodIn_app (goodIn_of _ (by decide +kernel)) ggX9_weighed_X9_weigh
set_option maxRecDepth 20000 in
theorem ggX9_weighed_X1_part : GoodIn wsX9_weighed wsX1_part := goodIn_r _ [89, 90, 67, 68, 91, 92, 93, 62, 94, 115, 116] (by decide +kernel) (by decide +kernel)
set_option maxRecDepth 20000 in
theorem gX9_weighed_X1_part : GoodIn wsX9_weighed (wsV RX9 107 RX1 yX1_part wsX1_part) := goodIn_app (goodIn_of _ (by decide +kernel)) ggX9_weighed_X1_part
theorem dX9_weighed_0 : decode cX9_weighed 0 = .ok (.iload_n 1, 1) := by decide +kernel
theorem dX9_weighed_1 : decode cX9_weighed 1 = .ok (.iload_n 2, 1) := by decide +kernel
theorem dX9_weighed_2 : decode cX9_weighed 2 = .ok (.iload_n 3, 1) := by decide +kernel
theorem dX9_weighed_3 : decode cX9_weighed 3 = .ok (.invokestatic 126, 3) := by decide +kernel
theorem dX9_weighed_6 : decode cX9_weighed 6 = .ok (.ifCond .eq 13, 3) := by decide +kernel
theorem dX9_weighed_9 : decode cX9_weighed 9 = .ok (.iload 4, 2) := by decide +kernel
theorem dX9_weighed_11 : decode cX9_weighed 11 = .ok (.iconst 0, 1) := by decide +kernel
theorem dX9_weighed_12 : decode cX9_weighed 12 = .ok (.iconst 1, 1) := by decide +kernel
theorem dX9_weighed_13 : decode cX9_weighed 13 = .ok (.invokestatic 80, 3) := by decide +kernel
theorem dX9_weighed_16 : decode cX9_weighed 16 = .ok (.ifCond .ne 7, 3) := by decide +kernel
theorem dX9_weighed_19 : decode cX9_weighed 19 = .ok (.ldc2_w 98, 3) := by decide +kernel
theorem dX9_weighed_22 : decode cX9_weighed 22 = .ok (.lreturn, 1) := by decide +kernel
theorem dX9_weighed_23 : decode cX9_weighed 23 = .ok (.aload_n 0, 1) := by decide +kernel
theorem dX9_weighed_24 : decode cX9_weighed 24 = .ok (.getfield 33, 3) := by decide +kernel
theorem dX9_weighed_27 : decode cX9_weighed 27 = .ok (.aload_n 0, 1) := by decide +kernel
theorem dX9_weighed_28 : decode cX9_weighed 28 = .ok (.getfield 10, 3) := by decide +kernel
theorem dX9_weighed_31 : decode cX9_weighed 31 = .ok (.iload_n 1, 1) := by decide +kernel
theorem dX9_weighed_32 : decode cX9_weighed 32 = .ok (.aload_n 0, 1) := by decide +kernel
theorem dX9_weighed_33 : decode cX9_weighed 33 = .ok (.getfield 26, 3) := by decide +kernel
theorem dX9_weighed_36 : decode cX9_weighed 36 = .ok (.iload_n 2, 1) := by decide +kernel
theorem dX9_weighed_37 : decode cX9_weighed 37 = .ok (.iload_n 3, 1) := by decide +kernel
theorem dX9_weighed_38 : decode cX9_weighed 38 = .ok (.invokevirtual 129, 3) := by decide +kernel
theorem dX9_weighed_41 : decode cX9_weighed 41 = .ok (.aload_n 0, 1) := by decide +kernel
theorem dX9_weighed_42 : decode cX9_weighed 42 = .ok (.iload_n 1, 1) := by decide +kernel
theorem dX9_weighed_43 : decode cX9_weighed 43 = .ok (.invokevirtual 140, 3) := by decide +kernel
theorem dX9_weighed_46 : decode cX9_weighed 46 = .ok (.aload_n 0, 1) := by decide +kernel
theorem dX9_weighed_47 : decode cX9_weighed 47 = .ok (.getfield 61, 3) := by decide +kernel
theorem dX9_weighed_50 : decode cX9_weighed 50 = .ok (.iload 4, 2) := by decide +kernel
theorem dX9_weighed_52 : decode cX9_weighed 52 = .ok (.invokevirtual 107, 3) := by decide +kernel
theorem dX9_weighed_55 : decode cX9_weighed 55 = .ok (.lreturn, 1) := by decide +kernel
set_option maxRecDepth 20000 in
theorem ggX9_mends_X9_isAsking : GoodIn wsX9_mends wsX9_isAsking := goodIn_r _ [12, 13, 14, 11, 15, 16, 17, 18] (by decide +kernel) (by decide +kernel)
set_option maxRecDepth 20000 in
theorem gX9_mends_X9_isAsking : GoodIn wsX9_mends (va_wsS RX9 126 yX9_isAsking wsX9_isAsking) := goodIn_app (goodIn_of _ (by decide +kernel)) ggX9_mends_X9_isAsking
set_option maxRecDepth 20000 in
theorem ggX9_mends_X0_ask : GoodIn wsX9_mends wsX0_ask := goodIn_r _ [23, 24, 25, 26, 27, 28, 29, 30, 31, 32, 33, 22, 34, 35, 36, 7, 37, 38, 39, 40, 41, 42, 43, 44, 45, 46, 47, 102, 103, 104, 105, 106, 107, 108, 109, 110, 111] (by decide +kernel) (by decide +kernel)
set_option maxRecDepth 20000 in
theorem gX9_mends_X0_ask : GoodIn wsX9_mends (wsV RX9 129 RX0 yX0_ask wsX0_ask) := goodIn_app (goodIn_of _ (by decide +kernel)) ggX9_mends_X0_ask
set_option maxRecDepth 20000 in
theorem ggX9_mends_X9_weigh : GoodIn wsX9_mends wsX9_weigh := goodIn_r _ [51, 4, 2, 52, 53, 54, 41, 55, 56, 57, 58, 59, 60, 39, 40, 42, 43, 61, 62, 63, 64, 65, 66, 6, 7, 8, 67, 68, 69, 70, 71, 72, 73, 74, 11, 75, 1, 76, 77, 78, 79, 22, 80, 24, 81, 82, 83, 84, 85, 90, 91, 92, 93, 94, 95, 96, 97, 98, 99, 110, 111, 100, 101, 102, 103, 104] (by decide +kernel) (by decide +kernel)
set_option maxRecDepth 20000 in
theorem gX9_mends_X9_weigh : GoodIn wsX9_mends (wsV RX9 140 RX9 yX9_weigh wsX9_weigh) := goodIn_app (goodIn_of _ (by decide +kernel)) ggX9_mends_X9_weigh
set_option maxRecDepth 20000 in
theorem ggX9_mends_X0_met : GoodIn wsX9_mends wsX0_met := goodIn_r _ [80, 24, 102, 103, 104] (by decide +kernel) (by decide +kernel)
set_option maxRecDepth 20000 in
theorem gX9_mends_X0_met : GoodIn wsX9_mends (wsV RX9 133 RX0 yX0_met wsX0_met) := goodIn_app (goodIn_of _ (by decide +kernel)) ggX9_mends_X0_met
set_option maxRecDepth 20000 in
theorem ggX9_mends_X1_isThere : GoodIn wsX9_mends wsX1_isThere := goodIn_r _ [89, 68, 100, 101] (by decide +kernel) (by decide +kernel)
set_option maxRecDepth 20000 in
theorem gX9_mends_X1_isThere : GoodIn wsX9_mends (wsV RX9 143 RX1 yX1_isThere wsX1_isThere) := goodIn_app (goodIn_of _ (by decide +kernel)) ggX9_mends_X1_isThere
set_option maxRecDepth 20000 in
theorem ggX9_mends_X4_having : GoodIn wsX9_mends wsX4_having := goodIn_r _ [55, 56, 57, 58, 41, 59, 60, 39, 40, 42, 43, 110, 111] (by decide +kernel) (by decide +kernel)
set_option maxRecDepth 20000 in
theorem gX9_mends_X4_having : GoodIn wsX9_mends (wsV RX9 95 RX4 yX4_having wsX4_having) := goodIn_app (goodIn_of _ (by decide +kernel)) ggX9_mends_X4_having
theorem dX9_mends_0 : decode cX9_mends 0 = .ok (.iload_n 1, 1) := by decide +kernel
theorem dX9_mends_1 : decode cX9_mends 1 = .ok (.iload_n 2, 1) := by decide +kernel
theorem dX9_mends_2 : decode cX9_mends 2 = .ok (.iload_n 3, 1) := by decide +kernel
theorem dX9_mends_3 : decode cX9_mends 3 = .ok (.invokestatic 126, 3) := by decide +kernel
theorem dX9_mends_6 : decode cX9_mends 6 = .ok (.ifCond .ne 6, 3) := by decide +kernel
theorem dX9_mends_9 : decode cX9_mends 9 = .ok (.bipush (-9), 2) := by decide +kernel
theorem dX9_mends_11 : decode cX9_mends 11 = .ok (.ireturn, 1) := by decide +kernel
theorem dX9_mends_12 : decode cX9_mends 12 = .ok (.aload_n 0, 1) := by decide +kernel
theorem dX9_mends_13 : decode cX9_mends 13 = .ok (.getfield 33, 3) := by decide +kernel
theorem dX9_mends_16 : decode cX9_mends 16 = .ok (.aload_n 0, 1) := by decide +kernel
theorem dX9_mends_17 : decode cX9_mends 17 = .ok (.getfield 10, 3) := by decide +kernel
theorem dX9_mends_20 : decode cX9_mends 20 = .ok (.iload_n 1, 1) := by decide +kernel
theorem dX9_mends_21 : decode cX9_mends 21 = .ok (.aload_n 0, 1) := by decide +kernel
theorem dX9_mends_22 : decode cX9_mends 22 = .ok (.getfield 26, 3) := by decide +kernel
theorem dX9_mends_25 : decode cX9_mends 25 = .ok (.iload_n 2, 1) := by decide +kernel
theorem dX9_mends_26 : decode cX9_mends 26 = .ok (.iload_n 3, 1) := by decide +kernel
theorem dX9_mends_27 : decode cX9_mends 27 = .ok (.invokevirtual 129, 3) := by decide +kernel
theorem dX9_mends_30 : decode cX9_mends 30 = .ok (.aload_n 0, 1) := by decide +kernel
theorem dX9_mends_31 : decode cX9_mends 31 = .ok (.iload_n 1, 1) := by decide +kernel
theorem dX9_mends_32 : decode cX9_mends 32 = .ok (.invokevirtual 140, 3) := by decide +kernel
theorem dX9_mends_35 : decode cX9_mends 35 = .ok (.aload_n 0, 1) := by decide +kernel
theorem dX9_mends_36 : decode cX9_mends 36 = .ok (.getfield 33, 3) := by decide +kernel
theorem dX9_mends_39 : decode cX9_mends 39 = .ok (.iconst 0, 1) := by decide +kernel
theorem dX9_mends_40 : decode cX9_mends 40 = .ok (.iconst 0, 1) := by decide +kernel
theorem dX9_mends_41 : decode cX9_mends 41 = .ok (.invokevirtual 133, 3) := by decide +kernel
theorem dX9_mends_44 : decode cX9_mends 44 = .ok (.i2l, 1) := by decide +kernel
theorem dX9_mends_45 : decode cX9_mends 45 = .ok (.lstore 4, 2) := by decide +kernel
theorem dX9_mends_47 : decode cX9_mends 47 = .ok (.aload_n 0, 1) := by decide +kernel
theorem dX9_mends_48 : decode cX9_mends 48 = .ok (.getfield 61, 3) := by decide +kernel
theorem dX9_mends_51 : decode cX9_mends 51 = .ok (.invokevirtual 143, 3) := by decide +kernel
theorem dX9_mends_54 : decode cX9_mends 54 = .ok (.ifCond .eq 10, 3) := by decide +kernel
theorem dX9_mends_57 : decode cX9_mends 57 = .ok (.lload 4, 2) := by decide +kernel
theorem dX9_mends_59 : decode cX9_mends 59 = .ok (.lconst 0, 1) := by decide +kernel
theorem dX9_mends_60 : decode cX9_mends 60 = .ok (.lcmp, 1) := by decide +kernel
theorem dX9_mends_61 : decode cX9_mends 61 = .ok (.ifCond .ne 6, 3) := by decide +kernel
theorem dX9_mends_64 : decode cX9_mends 64 = .ok (.bipush (-9), 2) := by decide +kernel
theorem dX9_mends_66 : decode cX9_mends 66 = .ok (.ireturn, 1) := by decide +kernel
theorem dX9_mends_67 : decode cX9_mends 67 = .ok (.aload_n 0, 1) := by decide +kernel
theorem dX9_mends_68 : decode cX9_mends 68 = .ok (.getfield 10, 3) := by decide +kernel
theorem dX9_mends_71 : decode cX9_mends 71 = .ok (.iload_n 1, 1) := by decide +kernel
theorem dX9_mends_72 : decode cX9_mends 72 = .ok (.iconst 0, 1) := by decide +kernel
theorem dX9_mends_73 : decode cX9_mends 73 = .ok (.invokevirtual 95, 3) := by decide +kernel
theorem dX9_mends_76 : decode cX9_mends 76 = .ok (.i2l, 1) := by decide +kernel
theorem dX9_mends_77 : decode cX9_mends 77 = .ok (.lstore 6, 2) := by decide +kernel
theorem dX9_mends_79 : decode cX9_mends 79 = .ok (.aload_n 0, 1) := by decide +kernel
theorem dX9_mends_80 : decode cX9_mends 80 = .ok (.getfield 10, 3) := by decide +kernel
theorem dX9_mends_83 : decode cX9_mends 83 = .ok (.iload_n 1, 1) := by decide +kernel
theorem dX9_mends_84 : decode cX9_mends 84 = .ok (.iconst 1, 1) := by decide +kernel
theorem dX9_mends_85 : decode cX9_mends 85 = .ok (.invokevirtual 95, 3) := by decide +kernel
theorem dX9_mends_88 : decode cX9_mends 88 = .ok (.i2l, 1) := by decide +kernel
theorem dX9_mends_89 : decode cX9_mends 89 = .ok (.lstore 8, 2) := by decide +kernel
theorem dX9_mends_91 : decode cX9_mends 91 = .ok (.aload_n 0, 1) := by decide +kernel
theorem dX9_mends_92 : decode cX9_mends 92 = .ok (.getfield 61, 3) := by decide +kernel
theorem dX9_mends_95 : decode cX9_mends 95 = .ok (.getfield 147, 3) := by decide +kernel
theorem dX9_mends_98 : decode cX9_mends 98 = .ok (.lload 6, 2) := by decide +kernel
theorem dX9_mends_100 : decode cX9_mends 100 = .ok (.lmul, 1) := by decide +kernel
theorem dX9_mends_101 : decode cX9_mends 101 = .ok (.lload 8, 2) := by decide +kernel
theorem dX9_mends_103 : decode cX9_mends 103 = .ok (.aload_n 0, 1) := by decide +kernel
theorem dX9_mends_104 : decode cX9_mends 104 = .ok (.getfield 61, 3) := by decide +kernel
theorem dX9_mends_107 : decode cX9_mends 107 = .ok (.getfield 150, 3) := by decide +kernel
theorem dX9_mends_110 : decode cX9_mends 110 = .ok (.lmul, 1) := by decide +kernel
theorem dX9_mends_111 : decode cX9_mends 111 = .ok (.lsub, 1) := by decide +kernel
theorem dX9_mends_112 : decode cX9_mends 112 = .ok (.invokestatic 153, 3) := by decide +kernel
theorem dX9_mends_115 : decode cX9_mends 115 = .ok (.lload 4, 2) := by decide +kernel
theorem dX9_mends_117 : decode cX9_mends 117 = .ok (.lmul, 1) := by decide +kernel
theorem dX9_mends_118 : decode cX9_mends 118 = .ok (.lstore 10, 2) := by decide +kernel
theorem dX9_mends_120 : decode cX9_mends 120 = .ok (.aload_n 0, 1) := by decide +kernel
theorem dX9_mends_121 : decode cX9_mends 121 = .ok (.getfield 33, 3) := by decide +kernel
theorem dX9_mends_124 : decode cX9_mends 124 = .ok (.iconst 1, 1) := by decide +kernel
theorem dX9_mends_125 : decode cX9_mends 125 = .ok (.iconst 1, 1) := by decide +kernel
theorem dX9_mends_126 : decode cX9_mends 126 = .ok (.invokevirtual 133, 3) := by decide +kernel
theorem dX9_mends_129 : decode cX9_mends 129 = .ok (.i2l, 1) := by decide +kernel
theorem dX9_mends_130 : decode cX9_mends 130 = .ok (.lload 6, 2) := by decide +kernel
theorem dX9_mends_132 : decode cX9_mends 132 = .ok (.lmul, 1) := by decide +kernel
theorem dX9_mends_133 : decode cX9_mends 133 = .ok (.lload 8, 2) := by decide +kernel
theorem dX9_mends_135 : decode cX9_mends 135 = .ok (.lload 4, 2) := by decide +kernel
theorem dX9_mends_137 : decode cX9_mends 137 = .ok (.lmul, 1) := by decide +kernel
theorem dX9_mends_138 : decode cX9_mends 138 = .ok (.lsub, 1) := by decide +kernel
theorem dX9_mends_139 : decode cX9_mends 139 = .ok (.invokestatic 153, 3) := by decide +kernel
theorem dX9_mends_142 : decode cX9_mends 142 = .ok (.aload_n 0, 1) := by decide +kernel
theorem dX9_mends_143 : decode cX9_mends 143 = .ok (.getfield 61, 3) := by decide +kernel
theorem dX9_mends_146 : decode cX9_mends 146 = .ok (.getfield 150, 3) := by decide +kernel
theorem dX9_mends_149 : decode cX9_mends 149 = .ok (.lmul, 1) := by decide +kernel
theorem dX9_mends_150 : decode cX9_mends 150 = .ok (.lstore 12, 2) := by decide +kernel
theorem dX9_mends_152 : decode cX9_mends 152 = .ok (.lload 10, 2) := by decide +kernel
theorem dX9_mends_154 : decode cX9_mends 154 = .ok (.lload 12, 2) := by decide +kernel
theorem dX9_mends_156 : decode cX9_mends 156 = .ok (.lcmp, 1) := by decide +kernel
theorem dX9_mends_157 : decode cX9_mends 157 = .ok (.ifCond .ne 5, 3) := by decide +kernel
theorem dX9_mends_160 : decode cX9_mends 160 = .ok (.iconst 0, 1) := by decide +kernel
theorem dX9_mends_161 : decode cX9_mends 161 = .ok (.ireturn, 1) := by decide +kernel
theorem dX9_mends_162 : decode cX9_mends 162 = .ok (.lload 10, 2) := by decide +kernel
theorem dX9_mends_164 : decode cX9_mends 164 = .ok (.lload 12, 2) := by decide +kernel
theorem dX9_mends_166 : decode cX9_mends 166 = .ok (.lcmp, 1) := by decide +kernel
theorem dX9_mends_167 : decode cX9_mends 167 = .ok (.ifCond .ge 7, 3) := by decide +kernel
theorem dX9_mends_170 : decode cX9_mends 170 = .ok (.iconst 1, 1) := by decide +kernel
theorem dX9_mends_171 : decode cX9_mends 171 = .ok (.goto 4, 3) := by decide +kernel
theorem dX9_mends_174 : decode cX9_mends 174 = .ok (.iconst (-1), 1) := by decide +kernel
theorem dX9_mends_175 : decode cX9_mends 175 = .ok (.ireturn, 1) := by decide +kernel
set_option maxRecDepth 20000 in
theorem ggX9_ways_X9_isLot : GoodIn wsX9_ways wsX9_isLot := goodIn_r _ [6, 7, 8, 5, 9] (by decide +kernel) (by decide +kernel)
set_option maxRecDepth 20000 in
theorem gX9_ways_X9_isLot : GoodIn wsX9_ways (va_wsS RX9 159 yX9_isLot wsX9_isLot) := goodIn_app (goodIn_of _ (by decide +kernel)) ggX9_ways_X9_isLot
set_option maxRecDepth 20000 in
theorem ggX9_ways_X9_within : GoodIn wsX9_ways wsX9_within := goodIn_r _ [9] (by decide +kernel) (by decide +kernel)
set_option maxRecDepth 20000 in
theorem gX9_ways_X9_within : GoodIn wsX9_ways (va_wsS RX9 80 yX9_within wsX9_within) := goodIn_app (goodIn_of _ (by decide +kernel)) ggX9_ways_X9_within
set_option maxRecDepth 20000 in
theorem ggX9_ways_X5_near : GoodIn wsX9_ways wsX5_near := goodIn_r _ [14, 15, 16, 13, 17, 18, 19, 20, 21, 22, 23, 24, 25, 26, 27, 28, 29, 30, 31, 32, 33, 8, 5, 9, 45, 46] (by decide +kernel) (by decide +kernel)
set_option maxRecDepth 20000 in
theorem gX9_ways_X5_near : GoodIn wsX9_ways (wsV RX9 163 RX5 yX5_near wsX5_near) := goodIn_app (goodIn_of _ (by decide +kernel)) ggX9_ways_X5_near
set_option maxRecDepth 20000 in
theorem ggX9_ways_X5_choose : GoodIn wsX9_ways wsX5_choose := goodIn_r _ [32, 33, 8, 5, 9, 45, 46] (by decide +kernel) (by decide +kernel)
set_option maxRecDepth 20000 in
theorem gX9_ways_X5_choose : GoodIn wsX9_ways (wsV RX9 167 RX5 yX5_choose wsX5_choose) := goodIn_app (goodIn_of _ (by decide +kernel)) ggX9_ways_X5_choose
theorem dX9_ways_0 : decode cX9_ways 0 = .ok (.iload_n 1, 1) := by decide +kernel
theorem dX9_ways_1 : decode cX9_ways 1 = .ok (.iload_n 2, 1) := by decide +kernel
theorem dX9_ways_2 : decode cX9_ways 2 = .ok (.invokestatic 159, 3) := by decide +kernel
theorem dX9_ways_5 : decode cX9_ways 5 = .ok (.ifCond .eq 33, 3) := by decide +kernel
theorem dX9_ways_8 : decode cX9_ways 8 = .ok (.iload_n 3, 1) := by decide +kernel
theorem dX9_ways_9 : decode cX9_ways 9 = .ok (.iconst 1, 1) := by decide +kernel
theorem dX9_ways_10 : decode cX9_ways 10 = .ok (.iload_n 1, 1) := by decide +kernel
theorem dX9_ways_11 : decode cX9_ways 11 = .ok (.invokestatic 80, 3) := by decide +kernel
theorem dX9_ways_14 : decode cX9_ways 14 = .ok (.ifCond .eq 24, 3) := by decide +kernel
theorem dX9_ways_17 : decode cX9_ways 17 = .ok (.iload 4, 2) := by decide +kernel
theorem dX9_ways_19 : decode cX9_ways 19 = .ok (.iconst 0, 1) := by decide +kernel
theorem dX9_ways_20 : decode cX9_ways 20 = .ok (.bipush 100, 2) := by decide +kernel
theorem dX9_ways_22 : decode cX9_ways 22 = .ok (.invokestatic 80, 3) := by decide +kernel
theorem dX9_ways_25 : decode cX9_ways 25 = .ok (.ifCond .eq 13, 3) := by decide +kernel
theorem dX9_ways_28 : decode cX9_ways 28 = .ok (.iload 5, 2) := by decide +kernel
theorem dX9_ways_30 : decode cX9_ways 30 = .ok (.iconst 0, 1) := by decide +kernel
theorem dX9_ways_31 : decode cX9_ways 31 = .ok (.iconst 1, 1) := by decide +kernel
theorem dX9_ways_32 : decode cX9_ways 32 = .ok (.invokestatic 80, 3) := by decide +kernel
theorem dX9_ways_35 : decode cX9_ways 35 = .ok (.ifCond .ne 7, 3) := by decide +kernel
theorem dX9_ways_38 : decode cX9_ways 38 = .ok (.ldc2_w 98, 3) := by decide +kernel
theorem dX9_ways_41 : decode cX9_ways 41 = .ok (.lreturn, 1) := by decide +kernel
theorem dX9_ways_42 : decode cX9_ways 42 = .ok (.iload 5, 2) := by decide +kernel
theorem dX9_ways_44 : decode cX9_ways 44 = .ok (.ifCond .ne 18, 3) := by decide +kernel
theorem dX9_ways_47 : decode cX9_ways 47 = .ok (.aload_n 0, 1) := by decide +kernel
theorem dX9_ways_48 : decode cX9_ways 48 = .ok (.getfield 40, 3) := by decide +kernel
theorem dX9_ways_51 : decode cX9_ways 51 = .ok (.iload_n 1, 1) := by decide +kernel
theorem dX9_ways_52 : decode cX9_ways 52 = .ok (.iload_n 2, 1) := by decide +kernel
theorem dX9_ways_53 : decode cX9_ways 53 = .ok (.iload_n 3, 1) := by decide +kernel
theorem dX9_ways_54 : decode cX9_ways 54 = .ok (.iload 4, 2) := by decide +kernel
theorem dX9_ways_56 : decode cX9_ways 56 = .ok (.invokevirtual 163, 3) := by decide +kernel
theorem dX9_ways_59 : decode cX9_ways 59 = .ok (.goto 12, 3) := by decide +kernel
theorem dX9_ways_62 : decode cX9_ways 62 = .ok (.aload_n 0, 1) := by decide +kernel
theorem dX9_ways_63 : decode cX9_ways 63 = .ok (.getfield 40, 3) := by decide +kernel
theorem dX9_ways_66 : decode cX9_ways 66 = .ok (.iload_n 1, 1) := by decide +kernel
theorem dX9_ways_67 : decode cX9_ways 67 = .ok (.iload_n 3, 1) := by decide +kernel
theorem dX9_ways_68 : decode cX9_ways 68 = .ok (.invokevirtual 167, 3) := by decide +kernel
theorem dX9_ways_71 : decode cX9_ways 71 = .ok (.lreturn, 1) := by decide +kernel
set_option maxRecDepth 20000 in
theorem ggX9_few_X9_isLot : GoodIn wsX9_few wsX9_isLot := goodIn_r _ [5, 6, 7, 4, 8] (by decide +kernel) (by decide +kernel)
set_option maxRecDepth 20000 in
theorem gX9_few_X9_isLot : GoodIn wsX9_few (va_wsS RX9 159 yX9_isLot wsX9_isLot) := goodIn_app (goodIn_of _ (by decide +kernel)) ggX9_few_X9_isLot
set_option maxRecDepth 20000 in
theorem ggX9_few_X9_within : GoodIn wsX9_few wsX9_within := goodIn_r _ [8] (by decide +kernel) (by decide +kernel)
set_option maxRecDepth 20000 in
theorem gX9_few_X9_within : GoodIn wsX9_few (va_wsS RX9 80 yX9_within wsX9_within) := goodIn_app (goodIn_of _ (by decide +kernel)) ggX9_few_X9_within
set_option maxRecDepth 20000 in
theorem ggX9_few_X5_fewest : GoodIn wsX9_few wsX5_fewest := goodIn_r _ [13, 14, 15, 16, 12, 17, 18, 19, 20, 21, 22, 23, 24, 25, 26, 27, 28, 29, 30, 31, 32, 33, 34, 35, 36, 7, 4, 8, 37, 38, 39, 40, 51, 52] (by decide +kernel) (by decide +kernel)
set_option maxRecDepth 20000 in
theorem gX9_few_X5_fewest : GoodIn wsX9_few (wsV RX9 171 RX5 yX5_fewest wsX5_fewest) := goodIn_app (goodIn_of _ (by decide +kernel)) ggX9_few_X5_fewest
theorem dX9_few_0 : decode cX9_few 0 = .ok (.iload_n 1, 1) := by decide +kernel
theorem dX9_few_1 : decode cX9_few 1 = .ok (.iload_n 2, 1) := by decide +kernel
theorem dX9_few_2 : decode cX9_few 2 = .ok (.invokestatic 159, 3) := by decide +kernel
theorem dX9_few_5 : decode cX9_few 5 = .ok (.ifCond .eq 24, 3) := by decide +kernel
theorem dX9_few_8 : decode cX9_few 8 = .ok (.iload_n 3, 1) := by decide +kernel
theorem dX9_few_9 : decode cX9_few 9 = .ok (.iconst 0, 1) := by decide +kernel
theorem dX9_few_10 : decode cX9_few 10 = .ok (.bipush 100, 2) := by decide +kernel
theorem dX9_few_12 : decode cX9_few 12 = .ok (.invokestatic 80, 3) := by decide +kernel
theorem dX9_few_15 : decode cX9_few 15 = .ok (.ifCond .eq 14, 3) := by decide +kernel
theorem dX9_few_18 : decode cX9_few 18 = .ok (.iload 4, 2) := by decide +kernel
theorem dX9_few_20 : decode cX9_few 20 = .ok (.iconst 1, 1) := by decide +kernel
theorem dX9_few_21 : decode cX9_few 21 = .ok (.bipush 100, 2) := by decide +kernel
theorem dX9_few_23 : decode cX9_few 23 = .ok (.invokestatic 80, 3) := by decide +kernel
theorem dX9_few_26 : decode cX9_few 26 = .ok (.ifCond .ne 5, 3) := by decide +kernel
theorem dX9_few_29 : decode cX9_few 29 = .ok (.iconst (-1), 1) := by decide +kernel
theorem dX9_few_30 : decode cX9_few 30 = .ok (.ireturn, 1) := by decide +kernel
theorem dX9_few_31 : decode cX9_few 31 = .ok (.aload_n 0, 1) := by decide +kernel
theorem dX9_few_32 : decode cX9_few 32 = .ok (.getfield 40, 3) := by decide +kernel
theorem dX9_few_35 : decode cX9_few 35 = .ok (.iload_n 1, 1) := by decide +kernel
theorem dX9_few_36 : decode cX9_few 36 = .ok (.iload_n 2, 1) := by decide +kernel
theorem dX9_few_37 : decode cX9_few 37 = .ok (.iload_n 3, 1) := by decide +kernel
theorem dX9_few_38 : decode cX9_few 38 = .ok (.iload 4, 2) := by decide +kernel
theorem dX9_few_40 : decode cX9_few 40 = .ok (.invokevirtual 171, 3) := by decide +kernel
theorem dX9_few_43 : decode cX9_few 43 = .ok (.ireturn, 1) := by decide +kernel
set_option maxRecDepth 20000 in
theorem ggX9_may_X9_within : GoodIn wsX9_may wsX9_within := goodIn_r _ [5] (by decide +kernel) (by decide +kernel)
set_option maxRecDepth 20000 in
theorem gX9_may_X9_within : GoodIn wsX9_may (va_wsS RX9 80 yX9_within wsX9_within) := goodIn_app (goodIn_of _ (by decide +kernel)) ggX9_may_X9_within
set_option maxRecDepth 20000 in
theorem ggX9_may_X5_likeliest : GoodIn wsX9_may wsX5_likeliest := goodIn_r _ [10, 11, 12, 13, 9, 14, 15, 16, 17, 18, 19, 3, 4, 5, 44, 45] (by decide +kernel) (by decide +kernel)
set_option maxRecDepth 20000 in
theorem gX9_may_X5_likeliest : GoodIn wsX9_may (wsV RX9 175 RX5 yX5_likeliest wsX5_likeliest) := goodIn_app (goodIn_of _ (by decide +kernel)) ggX9_may_X5_likeliest
set_option maxRecDepth 20000 in
theorem ggX9_may_X5_just : GoodIn wsX9_may wsX5_just := goodIn_r _ [14, 15, 16, 17, 9, 18, 19, 3, 4, 5, 44, 45] (by decide +kernel) (by decide +kernel)
set_option maxRecDepth 20000 in
theorem gX9_may_X5_just : GoodIn wsX9_may (wsV RX9 178 RX5 yX5_just wsX5_just) := goodIn_app (goodIn_of _ (by decide +kernel)) ggX9_may_X5_just
set_option maxRecDepth 20000 in
theorem ggX9_may_X5_leastTruth : GoodIn wsX9_may wsX5_leastTruth := goodIn_r _ [24, 25, 26, 27, 9, 28, 29, 11, 12, 13, 14, 15, 16, 17, 18, 19, 3, 4, 5, 44, 45] (by decide +kernel) (by decide +kernel)
set_option maxRecDepth 20000 in
theorem gX9_may_X5_leastTruth : GoodIn wsX9_may (wsV RX9 181 RX5 yX5_leastTruth wsX5_leastTruth) := goodIn_app (goodIn_of _ (by decide +kernel)) ggX9_may_X5_leastTruth
set_option maxRecDepth 20000 in
theorem ggX9_may_X5_mostTruth : GoodIn wsX9_may wsX5_mostTruth := goodIn_r _ [33, 25, 26, 27, 9, 28, 29, 11, 12, 13, 14, 15, 16, 17, 18, 19, 3, 4, 5, 44, 45] (by decide +kernel) (by decide +kernel)
set_option maxRecDepth 20000 in
theorem gX9_may_X5_mostTruth : GoodIn wsX9_may (wsV RX9 185 RX5 yX5_mostTruth wsX5_mostTruth) := goodIn_app (goodIn_of _ (by decide +kernel)) ggX9_may_X5_mostTruth
theorem dX9_may_0 : decode cX9_may 0 = .ok (.iload_n 1, 1) := by decide +kernel
theorem dX9_may_1 : decode cX9_may 1 = .ok (.iconst 1, 1) := by decide +kernel
theorem dX9_may_2 : decode cX9_may 2 = .ok (.bipush 50, 2) := by decide +kernel
theorem dX9_may_4 : decode cX9_may 4 = .ok (.invokestatic 80, 3) := by decide +kernel
theorem dX9_may_7 : decode cX9_may 7 = .ok (.ifCond .eq 31, 3) := by decide +kernel
theorem dX9_may_10 : decode cX9_may 10 = .ok (.iload_n 2, 1) := by decide +kernel
theorem dX9_may_11 : decode cX9_may 11 = .ok (.iconst 1, 1) := by decide +kernel
theorem dX9_may_12 : decode cX9_may 12 = .ok (.iload_n 1, 1) := by decide +kernel
theorem dX9_may_13 : decode cX9_may 13 = .ok (.invokestatic 80, 3) := by decide +kernel
theorem dX9_may_16 : decode cX9_may 16 = .ok (.ifCond .eq 22, 3) := by decide +kernel
theorem dX9_may_19 : decode cX9_may 19 = .ok (.iload_n 3, 1) := by decide +kernel
theorem dX9_may_20 : decode cX9_may 20 = .ok (.iconst 0, 1) := by decide +kernel
theorem dX9_may_21 : decode cX9_may 21 = .ok (.iload_n 2, 1) := by decide +kernel
theorem dX9_may_22 : decode cX9_may 22 = .ok (.invokestatic 80, 3) := by decide +kernel
theorem dX9_may_25 : decode cX9_may 25 = .ok (.ifCond .eq 13, 3) := by decide +kernel
theorem dX9_may_28 : decode cX9_may 28 = .ok (.iload 4, 2) := by decide +kernel
theorem dX9_may_30 : decode cX9_may 30 = .ok (.iconst 0, 1) := by decide +kernel
theorem dX9_may_31 : decode cX9_may 31 = .ok (.iconst 2, 1) := by decide +kernel
theorem dX9_may_32 : decode cX9_may 32 = .ok (.invokestatic 80, 3) := by decide +kernel
theorem dX9_may_35 : decode cX9_may 35 = .ok (.ifCond .ne 5, 3) := by decide +kernel
theorem dX9_may_38 : decode cX9_may 38 = .ok (.iconst (-1), 1) := by decide +kernel
theorem dX9_may_39 : decode cX9_may 39 = .ok (.ireturn, 1) := by decide +kernel
theorem dX9_may_40 : decode cX9_may 40 = .ok (.aload_n 0, 1) := by decide +kernel
theorem dX9_may_41 : decode cX9_may 41 = .ok (.getfield 40, 3) := by decide +kernel
theorem dX9_may_44 : decode cX9_may 44 = .ok (.iload_n 1, 1) := by decide +kernel
theorem dX9_may_45 : decode cX9_may 45 = .ok (.iload_n 2, 1) := by decide +kernel
theorem dX9_may_46 : decode cX9_may 46 = .ok (.iload_n 3, 1) := by decide +kernel
theorem dX9_may_47 : decode cX9_may 47 = .ok (.invokevirtual 175, 3) := by decide +kernel
theorem dX9_may_50 : decode cX9_may 50 = .ok (.istore 5, 2) := by decide +kernel
theorem dX9_may_52 : decode cX9_may 52 = .ok (.iload 4, 2) := by decide +kernel
theorem dX9_may_54 : decode cX9_may 54 = .ok (.ifCond .ne 6, 3) := by decide +kernel
theorem dX9_may_57 : decode cX9_may 57 = .ok (.iload 5, 2) := by decide +kernel
theorem dX9_may_59 : decode cX9_may 59 = .ok (.ireturn, 1) := by decide +kernel
theorem dX9_may_60 : decode cX9_may 60 = .ok (.aload_n 0, 1) := by decide +kernel
theorem dX9_may_61 : decode cX9_may 61 = .ok (.getfield 40, 3) := by decide +kernel
theorem dX9_may_64 : decode cX9_may 64 = .ok (.iload_n 1, 1) := by decide +kernel
theorem dX9_may_65 : decode cX9_may 65 = .ok (.iload 5, 2) := by decide +kernel
theorem dX9_may_67 : decode cX9_may 67 = .ok (.iload_n 2, 1) := by decide +kernel
theorem dX9_may_68 : decode cX9_may 68 = .ok (.iload_n 3, 1) := by decide +kernel
theorem dX9_may_69 : decode cX9_may 69 = .ok (.invokevirtual 178, 3) := by decide +kernel
theorem dX9_may_72 : decode cX9_may 72 = .ok (.lstore 6, 2) := by decide +kernel
theorem dX9_may_74 : decode cX9_may 74 = .ok (.iload 4, 2) := by decide +kernel
theorem dX9_may_76 : decode cX9_may 76 = .ok (.iconst 1, 1) := by decide +kernel
theorem dX9_may_77 : decode cX9_may 77 = .ok (.if_icmp .ne 18, 3) := by decide +kernel
theorem dX9_may_80 : decode cX9_may 80 = .ok (.aload_n 0, 1) := by decide +kernel
theorem dX9_may_81 : decode cX9_may 81 = .ok (.getfield 40, 3) := by decide +kernel
theorem dX9_may_84 : decode cX9_may 84 = .ok (.iload_n 1, 1) := by decide +kernel
theorem dX9_may_85 : decode cX9_may 85 = .ok (.iload_n 2, 1) := by decide +kernel
theorem dX9_may_86 : decode cX9_may 86 = .ok (.iload_n 3, 1) := by decide +kernel
theorem dX9_may_87 : decode cX9_may 87 = .ok (.lload 6, 2) := by decide +kernel
theorem dX9_may_89 : decode cX9_may 89 = .ok (.invokevirtual 181, 3) := by decide +kernel
theorem dX9_may_92 : decode cX9_may 92 = .ok (.goto 15, 3) := by decide +kernel
theorem dX9_may_95 : decode cX9_may 95 = .ok (.aload_n 0, 1) := by decide +kernel
theorem dX9_may_96 : decode cX9_may 96 = .ok (.getfield 40, 3) := by decide +kernel
theorem dX9_may_99 : decode cX9_may 99 = .ok (.iload_n 1, 1) := by decide +kernel
theorem dX9_may_100 : decode cX9_may 100 = .ok (.iload_n 2, 1) := by decide +kernel
theorem dX9_may_101 : decode cX9_may 101 = .ok (.iload_n 3, 1) := by decide +kernel
theorem dX9_may_102 : decode cX9_may 102 = .ok (.lload 6, 2) := by decide +kernel
theorem dX9_may_104 : decode cX9_may 104 = .ok (.invokevirtual 185, 3) := by decide +kernel
theorem dX9_may_107 : decode cX9_may 107 = .ok (.ireturn, 1) := by decide +kernel
set_option maxRecDepth 20000 in
theorem ggX9_shadow_X9_isLand : GoodIn wsX9_shadow wsX9_isLand := goodIn_r _ [7, 8, 9, 6, 10] (by decide +kernel) (by decide +kernel)
set_option maxRecDepth 20000 in
theorem gX9_shadow_X9_isLand : GoodIn wsX9_shadow (va_wsS RX9 73 yX9_isLand wsX9_isLand) := goodIn_app (goodIn_of _ (by decide +kernel)) ggX9_shadow_X9_isLand
set_option maxRecDepth 20000 in
theorem ggX9_shadow_X4_back : GoodIn wsX9_shadow wsX4_back := goodIn_r _ [15, 16, 17, 18, 19, 14, 20, 21, 57, 58] (by decide +kernel) (by decide +kernel)
set_option maxRecDepth 20000 in
theorem gX9_shadow_X4_back : GoodIn wsX9_shadow (wsV RX9 100 RX4 yX4_back wsX4_back) := goodIn_app (goodIn_of _ (by decide +kernel)) ggX9_shadow_X4_back
set_option maxRecDepth 20000 in
theorem ggX9_shadow_X9_within : GoodIn wsX9_shadow wsX9_within := goodIn_r _ [10] (by decide +kernel) (by decide +kernel)
set_option maxRecDepth 20000 in
theorem gX9_shadow_X9_within : GoodIn wsX9_shadow (va_wsS RX9 80 yX9_within wsX9_within) := goodIn_app (goodIn_of _ (by decide +kernel)) ggX9_shadow_X9_within
set_option maxRecDepth 20000 in
theorem ggX9_shadow_X5_near : GoodIn wsX9_shadow wsX5_near := goodIn_r _ [26, 27, 28, 25, 29, 30, 31, 32, 33, 34, 35, 36, 37, 38, 39, 40, 41, 42, 43, 44, 45, 9, 6, 10, 59, 60] (by decide +kernel) (by decide +kernel)
set_option maxRecDepth 20000 in
theorem gX9_shadow_X5_near : GoodIn wsX9_shadow (wsV RX9 163 RX5 yX5_near wsX5_near) := goodIn_app (goodIn_of _ (by decide +kernel)) ggX9_shadow_X5_near
set_option maxRecDepth 20000 in
theorem ggX9_shadow_X5_choose : GoodIn wsX9_shadow wsX5_choose := goodIn_r _ [44, 45, 9, 6, 10, 59, 60] (by decide +kernel) (by decide +kernel)
set_option maxRecDepth 20000 in
theorem gX9_shadow_X5_choose : GoodIn wsX9_shadow (wsV RX9 167 RX5 yX5_choose wsX5_choose) := goodIn_app (goodIn_of _ (by decide +kernel)) ggX9_shadow_X5_choose
theorem dX9_shadow_0 : decode cX9_shadow 0 = .ok (.iload_n 1, 1) := by decide +kernel
theorem dX9_shadow_1 : decode cX9_shadow 1 = .ok (.invokestatic 73, 3) := by decide +kernel
theorem dX9_shadow_4 : decode cX9_shadow 4 = .ok (.ifCond .ne 7, 3) := by decide +kernel
theorem dX9_shadow_7 : decode cX9_shadow 7 = .ok (.ldc2_w 98, 3) := by decide +kernel
theorem dX9_shadow_10 : decode cX9_shadow 10 = .ok (.lreturn, 1) := by decide +kernel
theorem dX9_shadow_11 : decode cX9_shadow 11 = .ok (.aload_n 0, 1) := by decide +kernel
theorem dX9_shadow_12 : decode cX9_shadow 12 = .ok (.getfield 10, 3) := by decide +kernel
theorem dX9_shadow_15 : decode cX9_shadow 15 = .ok (.iload_n 1, 1) := by decide +kernel
theorem dX9_shadow_16 : decode cX9_shadow 16 = .ok (.iconst 0, 1) := by decide +kernel
theorem dX9_shadow_17 : decode cX9_shadow 17 = .ok (.invokevirtual 100, 3) := by decide +kernel
theorem dX9_shadow_20 : decode cX9_shadow 20 = .ok (.istore 5, 2) := by decide +kernel
theorem dX9_shadow_22 : decode cX9_shadow 22 = .ok (.iload_n 2, 1) := by decide +kernel
theorem dX9_shadow_23 : decode cX9_shadow 23 = .ok (.iconst 1, 1) := by decide +kernel
theorem dX9_shadow_24 : decode cX9_shadow 24 = .ok (.iload 5, 2) := by decide +kernel
theorem dX9_shadow_26 : decode cX9_shadow 26 = .ok (.invokestatic 80, 3) := by decide +kernel
theorem dX9_shadow_29 : decode cX9_shadow 29 = .ok (.ifCond .eq 23, 3) := by decide +kernel
theorem dX9_shadow_32 : decode cX9_shadow 32 = .ok (.iload_n 3, 1) := by decide +kernel
theorem dX9_shadow_33 : decode cX9_shadow 33 = .ok (.iconst 0, 1) := by decide +kernel
theorem dX9_shadow_34 : decode cX9_shadow 34 = .ok (.bipush 100, 2) := by decide +kernel
theorem dX9_shadow_36 : decode cX9_shadow 36 = .ok (.invokestatic 80, 3) := by decide +kernel
theorem dX9_shadow_39 : decode cX9_shadow 39 = .ok (.ifCond .eq 13, 3) := by decide +kernel
theorem dX9_shadow_42 : decode cX9_shadow 42 = .ok (.iload 4, 2) := by decide +kernel
theorem dX9_shadow_44 : decode cX9_shadow 44 = .ok (.iconst 0, 1) := by decide +kernel
theorem dX9_shadow_45 : decode cX9_shadow 45 = .ok (.iconst 1, 1) := by decide +kernel
theorem dX9_shadow_46 : decode cX9_shadow 46 = .ok (.invokestatic 80, 3) := by decide +kernel
theorem dX9_shadow_49 : decode cX9_shadow 49 = .ok (.ifCond .ne 7, 3) := by decide +kernel
theorem dX9_shadow_52 : decode cX9_shadow 52 = .ok (.ldc2_w 98, 3) := by decide +kernel
theorem dX9_shadow_55 : decode cX9_shadow 55 = .ok (.lreturn, 1) := by decide +kernel
theorem dX9_shadow_56 : decode cX9_shadow 56 = .ok (.iload 4, 2) := by decide +kernel
theorem dX9_shadow_58 : decode cX9_shadow 58 = .ok (.ifCond .ne 26, 3) := by decide +kernel
theorem dX9_shadow_61 : decode cX9_shadow 61 = .ok (.aload_n 0, 1) := by decide +kernel
theorem dX9_shadow_62 : decode cX9_shadow 62 = .ok (.getfield 40, 3) := by decide +kernel
theorem dX9_shadow_65 : decode cX9_shadow 65 = .ok (.iload 5, 2) := by decide +kernel
theorem dX9_shadow_67 : decode cX9_shadow 67 = .ok (.aload_n 0, 1) := by decide +kernel
theorem dX9_shadow_68 : decode cX9_shadow 68 = .ok (.getfield 10, 3) := by decide +kernel
theorem dX9_shadow_71 : decode cX9_shadow 71 = .ok (.iload_n 1, 1) := by decide +kernel
theorem dX9_shadow_72 : decode cX9_shadow 72 = .ok (.iconst 1, 1) := by decide +kernel
theorem dX9_shadow_73 : decode cX9_shadow 73 = .ok (.invokevirtual 100, 3) := by decide +kernel
theorem dX9_shadow_76 : decode cX9_shadow 76 = .ok (.iload_n 2, 1) := by decide +kernel
theorem dX9_shadow_77 : decode cX9_shadow 77 = .ok (.iload_n 3, 1) := by decide +kernel
theorem dX9_shadow_78 : decode cX9_shadow 78 = .ok (.invokevirtual 163, 3) := by decide +kernel
theorem dX9_shadow_81 : decode cX9_shadow 81 = .ok (.goto 13, 3) := by decide +kernel
theorem dX9_shadow_84 : decode cX9_shadow 84 = .ok (.aload_n 0, 1) := by decide +kernel
theorem dX9_shadow_85 : decode cX9_shadow 85 = .ok (.getfield 40, 3) := by decide +kernel
theorem dX9_shadow_88 : decode cX9_shadow 88 = .ok (.iload 5, 2) := by decide +kernel
theorem dX9_shadow_90 : decode cX9_shadow 90 = .ok (.iload_n 2, 1) := by decide +kernel
theorem dX9_shadow_91 : decode cX9_shadow 91 = .ok (.invokevirtual 167, 3) := by decide +kernel
theorem dX9_shadow_94 : decode cX9_shadow 94 = .ok (.lreturn, 1) := by decide +kernel
set_option maxRecDepth 20000 in
theorem ggX9_week_X9_within : GoodIn wsX9_week wsX9_within := goodIn_r _ [5] (by decide +kernel) (by decide +kernel)
set_option maxRecDepth 20000 in
theorem gX9_week_X9_within : GoodIn wsX9_week (va_wsS RX9 80 yX9_within wsX9_within) := goodIn_app (goodIn_of _ (by decide +kernel)) ggX9_week_X9_within
set_option maxRecDepth 20000 in
theorem ggX9_week_X8_append : GoodIn wsX9_week wsX8_append := goodIn_r _ [10, 11, 12, 23, 24] (by decide +kernel) (by decide +kernel)
set_option maxRecDepth 20000 in
theorem gX9_week_X8_append : GoodIn wsX9_week (wsV RX9 188 RX8 yX8_append wsX8_append) := goodIn_app (goodIn_of _ (by decide +kernel)) ggX9_week_X8_append
theorem dX9_week_0 : decode cX9_week 0 = .ok (.iload_n 1, 1) := by decide +kernel
theorem dX9_week_1 : decode cX9_week 1 = .ok (.iconst 0, 1) := by decide +kernel
theorem dX9_week_2 : decode cX9_week 2 = .ok (.sipush 1000, 3) := by decide +kernel
theorem dX9_week_5 : decode cX9_week 5 = .ok (.invokestatic 80, 3) := by decide +kernel
theorem dX9_week_8 : decode cX9_week 8 = .ok (.ifCond .ne 5, 3) := by decide +kernel
theorem dX9_week_11 : decode cX9_week 11 = .ok (.iconst (-1), 1) := by decide +kernel
theorem dX9_week_12 : decode cX9_week 12 = .ok (.ireturn, 1) := by decide +kernel
theorem dX9_week_13 : decode cX9_week 13 = .ok (.aload_n 0, 1) := by decide +kernel
theorem dX9_week_14 : decode cX9_week 14 = .ok (.getfield 47, 3) := by decide +kernel
theorem dX9_week_17 : decode cX9_week 17 = .ok (.iload_n 1, 1) := by decide +kernel
theorem dX9_week_18 : decode cX9_week 18 = .ok (.invokevirtual 188, 3) := by decide +kernel
theorem dX9_week_21 : decode cX9_week 21 = .ok (.ireturn, 1) := by decide +kernel
set_option maxRecDepth 20000 in
theorem ggX9_turn_X9_within : GoodIn wsX9_turn wsX9_within := goodIn_r _ [5] (by decide +kernel) (by decide +kernel)
set_option maxRecDepth 20000 in
theorem gX9_turn_X9_within : GoodIn wsX9_turn (va_wsS RX9 80 yX9_within wsX9_within) := goodIn_app (goodIn_of _ (by decide +kernel)) ggX9_turn_X9_within
set_option maxRecDepth 20000 in
theorem ggX9_turn_X8_rise : GoodIn wsX9_turn wsX8_rise := goodIn_r _ [10, 11, 12, 13, 9, 14, 15, 16, 17, 18, 19, 20, 35, 36] (by decide +kernel) (by decide +kernel)
set_option maxRecDepth 20000 in
theorem gX9_turn_X8_rise : GoodIn wsX9_turn (wsV RX9 190 RX8 yX8_rise wsX8_rise) := goodIn_app (goodIn_of _ (by decide +kernel)) ggX9_turn_X8_rise
set_option maxRecDepth 20000 in
theorem ggX9_turn_X8_fall : GoodIn wsX9_turn wsX8_fall := goodIn_r _ [24, 11, 12, 13, 9, 14, 15, 16, 17, 18, 19, 20, 35, 36] (by decide +kernel) (by decide +kernel)
set_option maxRecDepth 20000 in
theorem gX9_turn_X8_fall : GoodIn wsX9_turn (wsV RX9 193 RX8 yX8_fall wsX8_fall) := goodIn_app (goodIn_of _ (by decide +kernel)) ggX9_turn_X8_fall
theorem dX9_turn_0 : decode cX9_turn 0 = .ok (.iload_n 1, 1) := by decide +kernel
theorem dX9_turn_1 : decode cX9_turn 1 = .ok (.iconst 1, 1) := by decide +kernel
theorem dX9_turn_2 : decode cX9_turn 2 = .ok (.bipush 60, 2) := by decide +kernel
theorem dX9_turn_4 : decode cX9_turn 4 = .ok (.invokestatic 80, 3) := by decide +kernel
theorem dX9_turn_7 : decode cX9_turn 7 = .ok (.ifCond .eq 12, 3) := by decide +kernel
theorem dX9_turn_10 : decode cX9_turn 10 = .ok (.iload_n 2, 1) := by decide +kernel
theorem dX9_turn_11 : decode cX9_turn 11 = .ok (.iconst 0, 1) := by decide +kernel
theorem dX9_turn_12 : decode cX9_turn 12 = .ok (.iconst 1, 1) := by decide +kernel
theorem dX9_turn_13 : decode cX9_turn 13 = .ok (.invokestatic 80, 3) := by decide +kernel
theorem dX9_turn_16 : decode cX9_turn 16 = .ok (.ifCond .ne 5, 3) := by decide +kernel
theorem dX9_turn_19 : decode cX9_turn 19 = .ok (.iconst (-1), 1) := by decide +kernel
theorem dX9_turn_20 : decode cX9_turn 20 = .ok (.ireturn, 1) := by decide +kernel
theorem dX9_turn_21 : decode cX9_turn 21 = .ok (.iload_n 2, 1) := by decide +kernel
theorem dX9_turn_22 : decode cX9_turn 22 = .ok (.ifCond .ne 14, 3) := by decide +kernel
theorem dX9_turn_25 : decode cX9_turn 25 = .ok (.aload_n 0, 1) := by decide +kernel
theorem dX9_turn_26 : decode cX9_turn 26 = .ok (.getfield 47, 3) := by decide +kernel
theorem dX9_turn_29 : decode cX9_turn 29 = .ok (.iload_n 1, 1) := by decide +kernel
theorem dX9_turn_30 : decode cX9_turn 30 = .ok (.invokevirtual 190, 3) := by decide +kernel
theorem dX9_turn_33 : decode cX9_turn 33 = .ok (.goto 11, 3) := by decide +kernel
theorem dX9_turn_36 : decode cX9_turn 36 = .ok (.aload_n 0, 1) := by decide +kernel
theorem dX9_turn_37 : decode cX9_turn 37 = .ok (.getfield 47, 3) := by decide +kernel
theorem dX9_turn_40 : decode cX9_turn 40 = .ok (.iload_n 1, 1) := by decide +kernel
theorem dX9_turn_41 : decode cX9_turn 41 = .ok (.invokevirtual 193, 3) := by decide +kernel
theorem dX9_turn_44 : decode cX9_turn 44 = .ok (.ireturn, 1) := by decide +kernel
set_option maxRecDepth 20000 in
theorem ggX9_stops_X8_sure : GoodIn wsX9_stops wsX8_sure := goodIn_r _ [6, 7, 8, 9, 10, 5, 11, 12, 13, 14, 15, 16, 17, 18, 19, 20, 21, 22, 23, 24, 25, 26, 27, 28, 39, 40] (by decide +kernel) (by decide +kernel)
set_option maxRecDepth 20000 in
theorem gX9_stops_X8_sure : GoodIn wsX9_stops (wsV RX9 196 RX8 yX8_sure wsX8_sure) := goodIn_app (goodIn_of _ (by decide +kernel)) ggX9_stops_X8_sure
theorem dX9_stops_0 : decode cX9_stops 0 = .ok (.aload_n 0, 1) := by decide +kernel
theorem dX9_stops_1 : decode cX9_stops 1 = .ok (.getfield 47, 3) := by decide +kernel
theorem dX9_stops_4 : decode cX9_stops 4 = .ok (.invokevirtual 196, 3) := by decide +kernel
theorem dX9_stops_7 : decode cX9_stops 7 = .ok (.ireturn, 1) := by decide +kernel
set_option maxRecDepth 20000 in
theorem ggX9_house_X9_within : GoodIn wsX9_house wsX9_within := goodIn_r _ [12] (by decide +kernel) (by decide +kernel)
set_option maxRecDepth 20000 in
theorem gX9_house_X9_within : GoodIn wsX9_house (va_wsS RX9 80 yX9_within wsX9_within) := goodIn_app (goodIn_of _ (by decide +kernel)) ggX9_house_X9_within
set_option maxRecDepth 20000 in
theorem ggX9_house_X3_append : GoodIn wsX9_house wsX3_append := goodIn_r _ [17, 18, 19, 30, 31] (by decide +kernel) (by decide +kernel)
set_option maxRecDepth 20000 in
theorem gX9_house_X3_append : GoodIn wsX9_house (wsV RX9 204 RX3 yX3_append wsX3_append) := goodIn_app (goodIn_of _ (by decide +kernel)) ggX9_house_X3_append
theorem dX9_house_0 : decode cX9_house 0 = .ok (.iload_n 1, 1) := by decide +kernel
theorem dX9_house_1 : decode cX9_house 1 = .ok (.iconst 0, 1) := by decide +kernel
theorem dX9_house_2 : decode cX9_house 2 = .ok (.sipush 1000, 3) := by decide +kernel
theorem dX9_house_5 : decode cX9_house 5 = .ok (.invokestatic 80, 3) := by decide +kernel
theorem dX9_house_8 : decode cX9_house 8 = .ok (.ifCond .eq 25, 3) := by decide +kernel
theorem dX9_house_11 : decode cX9_house 11 = .ok (.iload_n 2, 1) := by decide +kernel
theorem dX9_house_12 : decode cX9_house 12 = .ok (.iconst 0, 1) := by decide +kernel
theorem dX9_house_13 : decode cX9_house 13 = .ok (.sipush 1000, 3) := by decide +kernel
theorem dX9_house_16 : decode cX9_house 16 = .ok (.invokestatic 80, 3) := by decide +kernel
theorem dX9_house_19 : decode cX9_house 19 = .ok (.ifCond .eq 14, 3) := by decide +kernel
theorem dX9_house_22 : decode cX9_house 22 = .ok (.iload_n 3, 1) := by decide +kernel
theorem dX9_house_23 : decode cX9_house 23 = .ok (.iconst 0, 1) := by decide +kernel
theorem dX9_house_24 : decode cX9_house 24 = .ok (.sipush 1000, 3) := by decide +kernel
theorem dX9_house_27 : decode cX9_house 27 = .ok (.invokestatic 80, 3) := by decide +kernel
theorem dX9_house_30 : decode cX9_house 30 = .ok (.ifCond .ne 5, 3) := by decide +kernel
theorem dX9_house_33 : decode cX9_house 33 = .ok (.iconst (-1), 1) := by decide +kernel
theorem dX9_house_34 : decode cX9_house 34 = .ok (.ireturn, 1) := by decide +kernel
theorem dX9_house_35 : decode cX9_house 35 = .ok (.aload_n 0, 1) := by decide +kernel
theorem dX9_house_36 : decode cX9_house 36 = .ok (.getfield 54, 3) := by decide +kernel
theorem dX9_house_39 : decode cX9_house 39 = .ok (.iconst 0, 1) := by decide +kernel
theorem dX9_house_40 : decode cX9_house 40 = .ok (.iload_n 1, 1) := by decide +kernel
theorem dX9_house_41 : decode cX9_house 41 = .ok (.iload_n 3, 1) := by decide +kernel
theorem dX9_house_42 : decode cX9_house 42 = .ok (.isub, 1) := by decide +kernel
theorem dX9_house_43 : decode cX9_house 43 = .ok (.invokestatic 199, 3) := by decide +kernel
theorem dX9_house_46 : decode cX9_house 46 = .ok (.iload_n 2, 1) := by decide +kernel
theorem dX9_house_47 : decode cX9_house 47 = .ok (.isub, 1) := by decide +kernel
theorem dX9_house_48 : decode cX9_house 48 = .ok (.invokestatic 201, 3) := by decide +kernel
theorem dX9_house_51 : decode cX9_house 51 = .ok (.invokevirtual 204, 3) := by decide +kernel
theorem dX9_house_54 : decode cX9_house 54 = .ok (.ireturn, 1) := by decide +kernel
set_option maxRecDepth 20000 in
theorem ggX9_held_X9_within : GoodIn wsX9_held wsX9_within := goodIn_r _ [5] (by decide +kernel) (by decide +kernel)
set_option maxRecDepth 20000 in
theorem gX9_held_X9_within : GoodIn wsX9_held (va_wsS RX9 80 yX9_within wsX9_within) := goodIn_app (goodIn_of _ (by decide +kernel)) ggX9_held_X9_within
set_option maxRecDepth 20000 in
theorem ggX9_held_X3_holding : GoodIn wsX9_held wsX3_holding := goodIn_r _ [10, 11, 12, 23, 24] (by decide +kernel) (by decide +kernel)
set_option maxRecDepth 20000 in
theorem gX9_held_X3_holding : GoodIn wsX9_held (wsV RX9 205 RX3 yX3_holding wsX3_holding) := goodIn_app (goodIn_of _ (by decide +kernel)) ggX9_held_X3_holding
theorem dX9_held_0 : decode cX9_held 0 = .ok (.iload_n 1, 1) := by decide +kernel
theorem dX9_held_1 : decode cX9_held 1 = .ok (.iconst 0, 1) := by decide +kernel
theorem dX9_held_2 : decode cX9_held 2 = .ok (.sipush 1000, 3) := by decide +kernel
theorem dX9_held_5 : decode cX9_held 5 = .ok (.invokestatic 80, 3) := by decide +kernel
theorem dX9_held_8 : decode cX9_held 8 = .ok (.ifCond .ne 5, 3) := by decide +kernel
theorem dX9_held_11 : decode cX9_held 11 = .ok (.iconst (-1), 1) := by decide +kernel
theorem dX9_held_12 : decode cX9_held 12 = .ok (.ireturn, 1) := by decide +kernel
theorem dX9_held_13 : decode cX9_held 13 = .ok (.aload_n 0, 1) := by decide +kernel
theorem dX9_held_14 : decode cX9_held 14 = .ok (.getfield 54, 3) := by decide +kernel
theorem dX9_held_17 : decode cX9_held 17 = .ok (.iload_n 1, 1) := by decide +kernel
theorem dX9_held_18 : decode cX9_held 18 = .ok (.invokevirtual 205, 3) := by decide +kernel
theorem dX9_held_21 : decode cX9_held 21 = .ok (.ireturn, 1) := by decide +kernel
set_option maxRecDepth 20000 in
theorem ggX9_wider_X9_within : GoodIn wsX9_wider wsX9_within := goodIn_r _ [5] (by decide +kernel) (by decide +kernel)
set_option maxRecDepth 20000 in
theorem gX9_wider_X9_within : GoodIn wsX9_wider (va_wsS RX9 80 yX9_within wsX9_within) := goodIn_app (goodIn_of _ (by decide +kernel)) ggX9_wider_X9_within
set_option maxRecDepth 20000 in
theorem ggX9_wider_X3_needFor : GoodIn wsX9_wider wsX3_needFor := goodIn_r _ [10, 11, 12, 23, 24] (by decide +kernel) (by decide +kernel)
set_option maxRecDepth 20000 in
theorem gX9_wider_X3_needFor : GoodIn wsX9_wider (wsV RX9 208 RX3 yX3_needFor wsX3_needFor) := goodIn_app (goodIn_of _ (by decide +kernel)) ggX9_wider_X3_needFor
theorem dX9_wider_0 : decode cX9_wider 0 = .ok (.iload_n 1, 1) := by decide +kernel
theorem dX9_wider_1 : decode cX9_wider 1 = .ok (.iconst 0, 1) := by decide +kernel
theorem dX9_wider_2 : decode cX9_wider 2 = .ok (.bipush 24, 2) := by decide +kernel
theorem dX9_wider_4 : decode cX9_wider 4 = .ok (.invokestatic 80, 3) := by decide +kernel
theorem dX9_wider_7 : decode cX9_wider 7 = .ok (.ifCond .ne 5, 3) := by decide +kernel
theorem dX9_wider_10 : decode cX9_wider 10 = .ok (.iconst (-1), 1) := by decide +kernel
theorem dX9_wider_11 : decode cX9_wider 11 = .ok (.ireturn, 1) := by decide +kernel
theorem dX9_wider_12 : decode cX9_wider 12 = .ok (.aload_n 0, 1) := by decide +kernel
theorem dX9_wider_13 : decode cX9_wider 13 = .ok (.getfield 54, 3) := by decide +kernel
theorem dX9_wider_16 : decode cX9_wider 16 = .ok (.iload_n 1, 1) := by decide +kernel
theorem dX9_wider_17 : decode cX9_wider 17 = .ok (.invokevirtual 208, 3) := by decide +kernel
theorem dX9_wider_20 : decode cX9_wider 20 = .ok (.ireturn, 1) := by decide +kernel
set_option maxRecDepth 20000 in
theorem ggX9_price_X9_within : GoodIn wsX9_price wsX9_within := goodIn_r _ [5] (by decide +kernel) (by decide +kernel)
set_option maxRecDepth 20000 in
theorem gX9_price_X9_within : GoodIn wsX9_price (va_wsS RX9 80 yX9_within wsX9_within) := goodIn_app (goodIn_of _ (by decide +kernel)) ggX9_price_X9_within
theorem dX9_price_0 : decode cX9_price 0 = .ok (.iload_n 1, 1) := by decide +kernel
theorem dX9_price_1 : decode cX9_price 1 = .ok (.iconst 0, 1) := by decide +kernel
theorem dX9_price_2 : decode cX9_price 2 = .ok (.iconst 2, 1) := by decide +kernel
theorem dX9_price_3 : decode cX9_price 3 = .ok (.invokestatic 80, 3) := by decide +kernel
theorem dX9_price_6 : decode cX9_price 6 = .ok (.ifCond .ne 5, 3) := by decide +kernel
theorem dX9_price_9 : decode cX9_price 9 = .ok (.iconst (-1), 1) := by decide +kernel
theorem dX9_price_10 : decode cX9_price 10 = .ok (.ireturn, 1) := by decide +kernel
theorem dX9_price_11 : decode cX9_price 11 = .ok (.iload_n 1, 1) := by decide +kernel
theorem dX9_price_12 : decode cX9_price 12 = .ok (.iconst 2, 1) := by decide +kernel
theorem dX9_price_13 : decode cX9_price 13 = .ok (.if_icmp .ne 13, 3) := by decide +kernel
theorem dX9_price_16 : decode cX9_price 16 = .ok (.iload_n 2, 1) := by decide +kernel
theorem dX9_price_17 : decode cX9_price 17 = .ok (.iconst 1, 1) := by decide +kernel
theorem dX9_price_18 : decode cX9_price 18 = .ok (.bipush 100, 2) := by decide +kernel
theorem dX9_price_20 : decode cX9_price 20 = .ok (.invokestatic 80, 3) := by decide +kernel
theorem dX9_price_23 : decode cX9_price 23 = .ok (.goto 10, 3) := by decide +kernel
theorem dX9_price_26 : decode cX9_price 26 = .ok (.iload_n 2, 1) := by decide +kernel
theorem dX9_price_27 : decode cX9_price 27 = .ok (.iconst 0, 1) := by decide +kernel
theorem dX9_price_28 : decode cX9_price 28 = .ok (.bipush 99, 2) := by decide +kernel
theorem dX9_price_30 : decode cX9_price 30 = .ok (.invokestatic 80, 3) := by decide +kernel
theorem dX9_price_33 : decode cX9_price 33 = .ok (.istore_n 3, 1) := by decide +kernel
theorem dX9_price_34 : decode cX9_price 34 = .ok (.iload_n 3, 1) := by decide +kernel
theorem dX9_price_35 : decode cX9_price 35 = .ok (.ifCond .ne 5, 3) := by decide +kernel
theorem dX9_price_38 : decode cX9_price 38 = .ok (.iconst (-1), 1) := by decide +kernel
theorem dX9_price_39 : decode cX9_price 39 = .ok (.ireturn, 1) := by decide +kernel
theorem dX9_price_40 : decode cX9_price 40 = .ok (.aload_n 0, 1) := by decide +kernel
theorem dX9_price_41 : decode cX9_price 41 = .ok (.getfield 65, 3) := by decide +kernel
theorem dX9_price_44 : decode cX9_price 44 = .ok (.iload_n 1, 1) := by decide +kernel
theorem dX9_price_45 : decode cX9_price 45 = .ok (.iaload, 1) := by decide +kernel
theorem dX9_price_46 : decode cX9_price 46 = .ok (.istore 4, 2) := by decide +kernel
theorem dX9_price_48 : decode cX9_price 48 = .ok (.aload_n 0, 1) := by decide +kernel
theorem dX9_price_49 : decode cX9_price 49 = .ok (.getfield 65, 3) := by decide +kernel
theorem dX9_price_52 : decode cX9_price 52 = .ok (.iload_n 1, 1) := by decide +kernel
theorem dX9_price_53 : decode cX9_price 53 = .ok (.iload_n 2, 1) := by decide +kernel
theorem dX9_price_54 : decode cX9_price 54 = .ok (.iastore, 1) := by decide +kernel
theorem dX9_price_55 : decode cX9_price 55 = .ok (.iload 4, 2) := by decide +kernel
theorem dX9_price_57 : decode cX9_price 57 = .ok (.ireturn, 1) := by decide +kernel
set_option maxRecDepth 20000 in
theorem ggX9_error_X9_isLand : GoodIn wsX9_error wsX9_isLand := goodIn_r _ [5, 6, 7, 4, 8] (by decide +kernel) (by decide +kernel)
set_option maxRecDepth 20000 in
theorem gX9_error_X9_isLand : GoodIn wsX9_error (va_wsS RX9 73 yX9_isLand wsX9_isLand) := goodIn_app (goodIn_of _ (by decide +kernel)) ggX9_error_X9_isLand
set_option maxRecDepth 20000 in
theorem ggX9_error_X4_having : GoodIn wsX9_error wsX4_having := goodIn_r _ [13, 14, 15, 16, 12, 17, 18, 19, 20, 21, 22, 114, 115] (by decide +kernel) (by decide +kernel)
set_option maxRecDepth 20000 in
theorem gX9_error_X4_having : GoodIn wsX9_error (wsV RX9 95 RX4 yX4_having wsX4_having) := goodIn_app (goodIn_of _ (by decide +kernel)) ggX9_error_X4_having
set_option maxRecDepth 20000 in
theorem ggX9_error_X9_within : GoodIn wsX9_error wsX9_within := goodIn_r _ [8] (by decide +kernel) (by decide +kernel)
set_option maxRecDepth 20000 in
theorem gX9_error_X9_within : GoodIn wsX9_error (va_wsS RX9 80 yX9_within wsX9_within) := goodIn_app (goodIn_of _ (by decide +kernel)) ggX9_error_X9_within
set_option maxRecDepth 20000 in
theorem ggX9_error_X9_mistake : GoodIn wsX9_error wsX9_mistake := goodIn_r _ [26, 27, 1, 28, 29, 9, 10, 11, 12, 13, 14, 15, 16, 17, 18, 19, 20, 21, 22, 30, 31, 32, 33, 34, 35, 36, 37, 38, 39, 40, 41, 42, 43, 44, 45, 46, 47, 48, 49, 50, 51, 52, 53, 54, 55, 56, 57, 58, 7, 4, 8, 59, 60, 61, 62, 63, 64, 65, 66, 67, 68, 69, 70, 71, 72, 73, 74, 75, 76, 77, 78, 79, 80, 81, 82, 83, 84, 85, 86, 87, 88, 89, 90, 91, 92, 93, 94, 95, 96, 97, 98, 99, 100, 101, 102, 103, 104, 105, 106, 107, 108, 109, 110, 111, 112, 113, 114, 115, 116, 117, 118, 119] (by decide +kernel) (by decide +kernel)
set_option maxRecDepth 20000 in
theorem gX9_error_X9_mistake : GoodIn wsX9_error (wsV RX9 211 RX9 yX9_mistake wsX9_mistake) := goodIn_app (goodIn_of _ (by decide +kernel)) ggX9_error_X9_mistake
theorem dX9_error_0 : decode cX9_error 0 = .ok (.iload_n 1, 1) := by decide +kernel
theorem dX9_error_1 : decode cX9_error 1 = .ok (.invokestatic 73, 3) := by decide +kernel
theorem dX9_error_4 : decode cX9_error 4 = .ok (.ifCond .eq 20, 3) := by decide +kernel
theorem dX9_error_7 : decode cX9_error 7 = .ok (.iload_n 2, 1) := by decide +kernel
theorem dX9_error_8 : decode cX9_error 8 = .ok (.iconst 0, 1) := by decide +kernel
theorem dX9_error_9 : decode cX9_error 9 = .ok (.aload_n 0, 1) := by decide +kernel
theorem dX9_error_10 : decode cX9_error 10 = .ok (.getfield 10, 3) := by decide +kernel
theorem dX9_error_13 : decode cX9_error 13 = .ok (.iload_n 1, 1) := by decide +kernel
theorem dX9_error_14 : decode cX9_error 14 = .ok (.iconst 0, 1) := by decide +kernel
theorem dX9_error_15 : decode cX9_error 15 = .ok (.invokevirtual 95, 3) := by decide +kernel
theorem dX9_error_18 : decode cX9_error 18 = .ok (.invokestatic 80, 3) := by decide +kernel
theorem dX9_error_21 : decode cX9_error 21 = .ok (.ifCond .ne 5, 3) := by decide +kernel
theorem dX9_error_24 : decode cX9_error 24 = .ok (.iconst (-1), 1) := by decide +kernel
theorem dX9_error_25 : decode cX9_error 25 = .ok (.ireturn, 1) := by decide +kernel
theorem dX9_error_26 : decode cX9_error 26 = .ok (.aload_n 0, 1) := by decide +kernel
theorem dX9_error_27 : decode cX9_error 27 = .ok (.getfield 10, 3) := by decide +kernel
theorem dX9_error_30 : decode cX9_error 30 = .ok (.iload_n 1, 1) := by decide +kernel
theorem dX9_error_31 : decode cX9_error 31 = .ok (.iconst 0, 1) := by decide +kernel
theorem dX9_error_32 : decode cX9_error 32 = .ok (.invokevirtual 95, 3) := by decide +kernel
theorem dX9_error_35 : decode cX9_error 35 = .ok (.ifCond .ne 8, 3) := by decide +kernel
theorem dX9_error_38 : decode cX9_error 38 = .ok (.bipush (-2), 2) := by decide +kernel
theorem dX9_error_40 : decode cX9_error 40 = .ok (.goto 9, 3) := by decide +kernel
theorem dX9_error_43 : decode cX9_error 43 = .ok (.aload_n 0, 1) := by decide +kernel
theorem dX9_error_44 : decode cX9_error 44 = .ok (.iload_n 1, 1) := by decide +kernel
theorem dX9_error_45 : decode cX9_error 45 = .ok (.iload_n 2, 1) := by decide +kernel
theorem dX9_error_46 : decode cX9_error 46 = .ok (.invokevirtual 211, 3) := by decide +kernel
theorem dX9_error_49 : decode cX9_error 49 = .ok (.ireturn, 1) := by decide +kernel
set_option maxRecDepth 20000 in
theorem ggX9_best_X9_within : GoodIn wsX9_best wsX9_within := goodIn_r _ [5] (by decide +kernel) (by decide +kernel)
set_option maxRecDepth 20000 in
theorem gX9_best_X9_within : GoodIn wsX9_best (va_wsS RX9 80 yX9_within wsX9_within) := goodIn_app (goodIn_of _ (by decide +kernel)) ggX9_best_X9_within
