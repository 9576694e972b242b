theorem dX8_walkOf_16 : decode cX8_walkOf 16 = .ok (.bipush (-9), 2) := by decide +kernel
theorem dX8_walkOf_18 : decode cX8_walkOf 18 = .ok (.istore 6, 2) := by decide +kernel
theorem dX8_walkOf_20 : decode cX8_walkOf 20 = .ok (.iload_n 1, 1) := by decide +kernel
theorem dX8_walkOf_21 : decode cX8_walkOf 21 = .ok (.istore 7, 2) := by decide +kernel
theorem dX8_walkOf_23 : decode cX8_walkOf 23 = .ok (.iconst 0, 1) := by decide +kernel
theorem dX8_walkOf_24 : decode cX8_walkOf 24 = .ok (.istore 8, 2) := by decide +kernel
theorem dX8_walkOf_26 : decode cX8_walkOf 26 = .ok (.iconst 0, 1) := by decide +kernel
theorem dX8_walkOf_27 : decode cX8_walkOf 27 = .ok (.istore 9, 2) := by decide +kernel
theorem dX8_walkOf_29 : decode cX8_walkOf 29 = .ok (.iload 9, 2) := by decide +kernel
theorem dX8_walkOf_31 : decode cX8_walkOf 31 = .ok (.iload_n 3, 1) := by decide +kernel
theorem dX8_walkOf_32 : decode cX8_walkOf 32 = .ok (.if_icmp .ge 87, 3) := by decide +kernel
theorem dX8_walkOf_35 : decode cX8_walkOf 35 = .ok (.aload_n 0, 1) := by decide +kernel
theorem dX8_walkOf_36 : decode cX8_walkOf 36 = .ok (.getfield 16, 3) := by decide +kernel
theorem dX8_walkOf_39 : decode cX8_walkOf 39 = .ok (.iload_n 2, 1) := by decide +kernel
theorem dX8_walkOf_40 : decode cX8_walkOf 40 = .ok (.iload 9, 2) := by decide +kernel
theorem dX8_walkOf_42 : decode cX8_walkOf 42 = .ok (.iadd, 1) := by decide +kernel
theorem dX8_walkOf_43 : decode cX8_walkOf 43 = .ok (.iaload, 1) := by decide +kernel
theorem dX8_walkOf_44 : decode cX8_walkOf 44 = .ok (.istore 10, 2) := by decide +kernel
theorem dX8_walkOf_46 : decode cX8_walkOf 46 = .ok (.iload 8, 2) := by decide +kernel
theorem dX8_walkOf_48 : decode cX8_walkOf 48 = .ok (.iload 10, 2) := by decide +kernel
theorem dX8_walkOf_50 : decode cX8_walkOf 50 = .ok (.iload 7, 2) := by decide +kernel
theorem dX8_walkOf_52 : decode cX8_walkOf 52 = .ok (.if_icmp .ge 11, 3) := by decide +kernel
theorem dX8_walkOf_55 : decode cX8_walkOf 55 = .ok (.iload 7, 2) := by decide +kernel
theorem dX8_walkOf_57 : decode cX8_walkOf 57 = .ok (.iload 10, 2) := by decide +kernel
theorem dX8_walkOf_59 : decode cX8_walkOf 59 = .ok (.isub, 1) := by decide +kernel
theorem dX8_walkOf_60 : decode cX8_walkOf 60 = .ok (.goto 8, 3) := by decide +kernel
theorem dX8_walkOf_63 : decode cX8_walkOf 63 = .ok (.iload 10, 2) := by decide +kernel
theorem dX8_walkOf_65 : decode cX8_walkOf 65 = .ok (.iload 7, 2) := by decide +kernel
theorem dX8_walkOf_67 : decode cX8_walkOf 67 = .ok (.isub, 1) := by decide +kernel
theorem dX8_walkOf_68 : decode cX8_walkOf 68 = .ok (.iadd, 1) := by decide +kernel
theorem dX8_walkOf_69 : decode cX8_walkOf 69 = .ok (.istore 8, 2) := by decide +kernel
theorem dX8_walkOf_71 : decode cX8_walkOf 71 = .ok (.iload 10, 2) := by decide +kernel
theorem dX8_walkOf_73 : decode cX8_walkOf 73 = .ok (.istore 7, 2) := by decide +kernel
theorem dX8_walkOf_75 : decode cX8_walkOf 75 = .ok (.iload 5, 2) := by decide +kernel
theorem dX8_walkOf_77 : decode cX8_walkOf 77 = .ok (.iload 10, 2) := by decide +kernel
theorem dX8_walkOf_79 : decode cX8_walkOf 79 = .ok (.ishr, 1) := by decide +kernel
theorem dX8_walkOf_80 : decode cX8_walkOf 80 = .ok (.iconst 1, 1) := by decide +kernel
theorem dX8_walkOf_81 : decode cX8_walkOf 81 = .ok (.iand, 1) := by decide +kernel
theorem dX8_walkOf_82 : decode cX8_walkOf 82 = .ok (.iconst 1, 1) := by decide +kernel
theorem dX8_walkOf_83 : decode cX8_walkOf 83 = .ok (.if_icmp .ne 30, 3) := by decide +kernel
theorem dX8_walkOf_86 : decode cX8_walkOf 86 = .ok (.iload 5, 2) := by decide +kernel
theorem dX8_walkOf_88 : decode cX8_walkOf 88 = .ok (.iconst 1, 1) := by decide +kernel
theorem dX8_walkOf_89 : decode cX8_walkOf 89 = .ok (.iload 10, 2) := by decide +kernel
theorem dX8_walkOf_91 : decode cX8_walkOf 91 = .ok (.ishl, 1) := by decide +kernel
theorem dX8_walkOf_92 : decode cX8_walkOf 92 = .ok (.iconst (-1), 1) := by decide +kernel
theorem dX8_walkOf_93 : decode cX8_walkOf 93 = .ok (.ixor, 1) := by decide +kernel
theorem dX8_walkOf_94 : decode cX8_walkOf 94 = .ok (.iand, 1) := by decide +kernel
theorem dX8_walkOf_95 : decode cX8_walkOf 95 = .ok (.istore 5, 2) := by decide +kernel
theorem dX8_walkOf_97 : decode cX8_walkOf 97 = .ok (.iload 5, 2) := by decide +kernel
theorem dX8_walkOf_99 : decode cX8_walkOf 99 = .ok (.ifCond .ne 10, 3) := by decide +kernel
theorem dX8_walkOf_102 : decode cX8_walkOf 102 = .ok (.iload 9, 2) := by decide +kernel
theorem dX8_walkOf_104 : decode cX8_walkOf 104 = .ok (.iconst 1, 1) := by decide +kernel
theorem dX8_walkOf_105 : decode cX8_walkOf 105 = .ok (.iadd, 1) := by decide +kernel
theorem dX8_walkOf_106 : decode cX8_walkOf 106 = .ok (.goto 5, 3) := by decide +kernel
theorem dX8_walkOf_109 : decode cX8_walkOf 109 = .ok (.iload 6, 2) := by decide +kernel
theorem dX8_walkOf_111 : decode cX8_walkOf 111 = .ok (.istore 6, 2) := by decide +kernel
theorem dX8_walkOf_113 : decode cX8_walkOf 113 = .ok (.iinc 9 1, 3) := by decide +kernel
theorem dX8_walkOf_116 : decode cX8_walkOf 116 = .ok (.goto (-87), 3) := by decide +kernel
theorem dX8_walkOf_119 : decode cX8_walkOf 119 = .ok (.iload 4, 2) := by decide +kernel
theorem dX8_walkOf_121 : decode cX8_walkOf 121 = .ok (.ifCond .ne 8, 3) := by decide +kernel
theorem dX8_walkOf_124 : decode cX8_walkOf 124 = .ok (.iload 8, 2) := by decide +kernel
theorem dX8_walkOf_126 : decode cX8_walkOf 126 = .ok (.goto 16, 3) := by decide +kernel
theorem dX8_walkOf_129 : decode cX8_walkOf 129 = .ok (.iload 4, 2) := by decide +kernel
theorem dX8_walkOf_131 : decode cX8_walkOf 131 = .ok (.iconst 1, 1) := by decide +kernel
theorem dX8_walkOf_132 : decode cX8_walkOf 132 = .ok (.if_icmp .ne 8, 3) := by decide +kernel
theorem dX8_walkOf_135 : decode cX8_walkOf 135 = .ok (.iload 5, 2) := by decide +kernel
theorem dX8_walkOf_137 : decode cX8_walkOf 137 = .ok (.goto 5, 3) := by decide +kernel
theorem dX8_walkOf_140 : decode cX8_walkOf 140 = .ok (.iload 6, 2) := by decide +kernel
theorem dX8_walkOf_142 : decode cX8_walkOf 142 = .ok (.ireturn, 1) := by decide +kernel
set_option maxRecDepth 20000 in
theorem ggX8_free_X8_isPerson : GoodIn wsX8_free wsX8_isPerson := goodIn_r _ [7, 1, 20, 21, 22, 23, 24, 25, 26, 27, 28, 29, 30, 31, 32, 33, 34, 35, 36, 37, 38, 39, 40] (by decide +kernel) (by decide +kernel)
set_option maxRecDepth 20000 in
theorem gX8_free_X8_isPerson : GoodIn wsX8_free (wsV RX8 63 RX8 yX8_isPerson wsX8_isPerson) := goodIn_app (goodIn_of _ (by decide +kernel)) ggX8_free_X8_isPerson
set_option maxRecDepth 20000 in
theorem ggX8_free_X8_spot : GoodIn wsX8_free wsX8_spot := goodIn_r _ [10] (by decide +kernel) (by decide +kernel)
set_option maxRecDepth 20000 in
theorem gX8_free_X8_spot : GoodIn wsX8_free (va_wsS RX8 110 yX8_spot wsX8_spot) := goodIn_app (goodIn_of _ (by decide +kernel)) ggX8_free_X8_spot
set_option maxRecDepth 20000 in
theorem ggX8_free_X8_lighterOf : GoodIn wsX8_free wsX8_lighterOf := goodIn_r _ [14, 1, 15, 16, 17, 6, 18, 2, 19, 8, 9, 10, 20, 21, 22, 23, 24, 25, 26, 27, 28, 29, 30, 31, 32, 33, 34, 35, 36, 37, 38, 39, 40] (by decide +kernel) (by decide +kernel)
set_option maxRecDepth 20000 in
theorem gX8_free_X8_lighterOf : GoodIn wsX8_free (wsV RX8 117 RX8 yX8_lighterOf wsX8_lighterOf) := goodIn_app (goodIn_of _ (by decide +kernel)) ggX8_free_X8_lighterOf
theorem dX8_free_0 : decode cX8_free 0 = .ok (.aload_n 0, 1) := by decide +kernel
theorem dX8_free_1 : decode cX8_free 1 = .ok (.iload_n 1, 1) := by decide +kernel
theorem dX8_free_2 : decode cX8_free 2 = .ok (.invokevirtual 63, 3) := by decide +kernel
theorem dX8_free_5 : decode cX8_free 5 = .ok (.ifCond .ne 5, 3) := by decide +kernel
theorem dX8_free_8 : decode cX8_free 8 = .ok (.iconst (-1), 1) := by decide +kernel
theorem dX8_free_9 : decode cX8_free 9 = .ok (.ireturn, 1) := by decide +kernel
theorem dX8_free_10 : decode cX8_free 10 = .ok (.iconst 0, 1) := by decide +kernel
theorem dX8_free_11 : decode cX8_free 11 = .ok (.istore_n 2, 1) := by decide +kernel
theorem dX8_free_12 : decode cX8_free 12 = .ok (.iconst 0, 1) := by decide +kernel
theorem dX8_free_13 : decode cX8_free 13 = .ok (.istore_n 3, 1) := by decide +kernel
theorem dX8_free_14 : decode cX8_free 14 = .ok (.iload_n 3, 1) := by decide +kernel
theorem dX8_free_15 : decode cX8_free 15 = .ok (.aload_n 0, 1) := by decide +kernel
theorem dX8_free_16 : decode cX8_free 16 = .ok (.getfield 60, 3) := by decide +kernel
theorem dX8_free_19 : decode cX8_free 19 = .ok (.if_icmp .ge 62, 3) := by decide +kernel
theorem dX8_free_22 : decode cX8_free 22 = .ok (.aload_n 0, 1) := by decide +kernel
theorem dX8_free_23 : decode cX8_free 23 = .ok (.getfield 22, 3) := by decide +kernel
theorem dX8_free_26 : decode cX8_free 26 = .ok (.iload_n 1, 1) := by decide +kernel
theorem dX8_free_27 : decode cX8_free 27 = .ok (.iload_n 3, 1) := by decide +kernel
theorem dX8_free_28 : decode cX8_free 28 = .ok (.invokestatic 110, 3) := by decide +kernel
theorem dX8_free_31 : decode cX8_free 31 = .ok (.iaload, 1) := by decide +kernel
theorem dX8_free_32 : decode cX8_free 32 = .ok (.istore 4, 2) := by decide +kernel
theorem dX8_free_34 : decode cX8_free 34 = .ok (.aload_n 0, 1) := by decide +kernel
theorem dX8_free_35 : decode cX8_free 35 = .ok (.iload_n 3, 1) := by decide +kernel
theorem dX8_free_36 : decode cX8_free 36 = .ok (.invokevirtual 117, 3) := by decide +kernel
theorem dX8_free_39 : decode cX8_free 39 = .ok (.iload_n 1, 1) := by decide +kernel
theorem dX8_free_40 : decode cX8_free 40 = .ok (.if_icmp .ne 23, 3) := by decide +kernel
theorem dX8_free_43 : decode cX8_free 43 = .ok (.aload_n 0, 1) := by decide +kernel
theorem dX8_free_44 : decode cX8_free 44 = .ok (.getfield 22, 3) := by decide +kernel
theorem dX8_free_47 : decode cX8_free 47 = .ok (.iload_n 1, 1) := by decide +kernel
theorem dX8_free_48 : decode cX8_free 48 = .ok (.iload_n 3, 1) := by decide +kernel
theorem dX8_free_49 : decode cX8_free 49 = .ok (.invokestatic 110, 3) := by decide +kernel
theorem dX8_free_52 : decode cX8_free 52 = .ok (.dup2, 1) := by decide +kernel
theorem dX8_free_53 : decode cX8_free 53 = .ok (.iaload, 1) := by decide +kernel
theorem dX8_free_54 : decode cX8_free 54 = .ok (.iconst 1, 1) := by decide +kernel
theorem dX8_free_55 : decode cX8_free 55 = .ok (.isub, 1) := by decide +kernel
theorem dX8_free_56 : decode cX8_free 56 = .ok (.iastore, 1) := by decide +kernel
theorem dX8_free_57 : decode cX8_free 57 = .ok (.iinc 2 1, 3) := by decide +kernel
theorem dX8_free_60 : decode cX8_free 60 = .ok (.goto (-26), 3) := by decide +kernel
theorem dX8_free_63 : decode cX8_free 63 = .ok (.aload_n 0, 1) := by decide +kernel
theorem dX8_free_64 : decode cX8_free 64 = .ok (.getfield 22, 3) := by decide +kernel
theorem dX8_free_67 : decode cX8_free 67 = .ok (.iload_n 1, 1) := by decide +kernel
theorem dX8_free_68 : decode cX8_free 68 = .ok (.iload_n 3, 1) := by decide +kernel
theorem dX8_free_69 : decode cX8_free 69 = .ok (.invokestatic 110, 3) := by decide +kernel
theorem dX8_free_72 : decode cX8_free 72 = .ok (.iload 4, 2) := by decide +kernel
theorem dX8_free_74 : decode cX8_free 74 = .ok (.iastore, 1) := by decide +kernel
theorem dX8_free_75 : decode cX8_free 75 = .ok (.iinc 3 1, 3) := by decide +kernel
theorem dX8_free_78 : decode cX8_free 78 = .ok (.goto (-64), 3) := by decide +kernel
theorem dX8_free_81 : decode cX8_free 81 = .ok (.iload_n 2, 1) := by decide +kernel
theorem dX8_free_82 : decode cX8_free 82 = .ok (.ireturn, 1) := by decide +kernel
set_option maxRecDepth 20000 in
theorem ggX8_haste_X8_roundOf : GoodIn wsX8_haste wsX8_roundOf := goodIn_r _ [6, 1, 7, 8, 9, 5, 10, 11, 12, 13, 14, 15, 16, 17, 18, 19, 24, 25, 26, 27, 28, 29, 30, 31, 32, 33, 34, 35, 36, 37, 38, 39, 40, 41, 42, 43, 44] (by decide +kernel) (by decide +kernel)
set_option maxRecDepth 20000 in
theorem gX8_haste_X8_roundOf : GoodIn wsX8_haste (wsV RX8 120 RX8 yX8_roundOf wsX8_roundOf) := goodIn_app (goodIn_of _ (by decide +kernel)) ggX8_haste_X8_roundOf
set_option maxRecDepth 20000 in
theorem ggX8_haste_X8_steps : GoodIn wsX8_haste wsX8_steps := goodIn_r _ [23, 1, 24, 25, 26, 27, 28, 29, 30, 31, 32, 33, 34, 35, 36, 37, 38, 39, 40, 41, 42, 43, 44] (by decide +kernel) (by decide +kernel)
set_option maxRecDepth 20000 in
theorem gX8_haste_X8_steps : GoodIn wsX8_haste (wsV RX8 123 RX8 yX8_steps wsX8_steps) := goodIn_app (goodIn_of _ (by decide +kernel)) ggX8_haste_X8_steps
theorem dX8_haste_0 : decode cX8_haste 0 = .ok (.aload_n 0, 1) := by decide +kernel
theorem dX8_haste_1 : decode cX8_haste 1 = .ok (.getfield 60, 3) := by decide +kernel
theorem dX8_haste_4 : decode cX8_haste 4 = .ok (.ifCond .ne 6, 3) := by decide +kernel
theorem dX8_haste_7 : decode cX8_haste 7 = .ok (.bipush (-3), 2) := by decide +kernel
theorem dX8_haste_9 : decode cX8_haste 9 = .ok (.ireturn, 1) := by decide +kernel
theorem dX8_haste_10 : decode cX8_haste 10 = .ok (.iconst 0, 1) := by decide +kernel
theorem dX8_haste_11 : decode cX8_haste 11 = .ok (.istore_n 1, 1) := by decide +kernel
theorem dX8_haste_12 : decode cX8_haste 12 = .ok (.iconst 0, 1) := by decide +kernel
theorem dX8_haste_13 : decode cX8_haste 13 = .ok (.istore_n 2, 1) := by decide +kernel
theorem dX8_haste_14 : decode cX8_haste 14 = .ok (.iload_n 2, 1) := by decide +kernel
theorem dX8_haste_15 : decode cX8_haste 15 = .ok (.aload_n 0, 1) := by decide +kernel
theorem dX8_haste_16 : decode cX8_haste 16 = .ok (.getfield 60, 3) := by decide +kernel
theorem dX8_haste_19 : decode cX8_haste 19 = .ok (.if_icmp .ge 31, 3) := by decide +kernel
theorem dX8_haste_22 : decode cX8_haste 22 = .ok (.aload_n 0, 1) := by decide +kernel
theorem dX8_haste_23 : decode cX8_haste 23 = .ok (.iload_n 2, 1) := by decide +kernel
theorem dX8_haste_24 : decode cX8_haste 24 = .ok (.aload_n 0, 1) := by decide +kernel
theorem dX8_haste_25 : decode cX8_haste 25 = .ok (.iload_n 2, 1) := by decide +kernel
theorem dX8_haste_26 : decode cX8_haste 26 = .ok (.invokevirtual 120, 3) := by decide +kernel
theorem dX8_haste_29 : decode cX8_haste 29 = .ok (.invokevirtual 123, 3) := by decide +kernel
theorem dX8_haste_32 : decode cX8_haste 32 = .ok (.istore_n 3, 1) := by decide +kernel
theorem dX8_haste_33 : decode cX8_haste 33 = .ok (.iload_n 3, 1) := by decide +kernel
theorem dX8_haste_34 : decode cX8_haste 34 = .ok (.iload_n 1, 1) := by decide +kernel
theorem dX8_haste_35 : decode cX8_haste 35 = .ok (.if_icmp .le 7, 3) := by decide +kernel
theorem dX8_haste_38 : decode cX8_haste 38 = .ok (.iload_n 3, 1) := by decide +kernel
theorem dX8_haste_39 : decode cX8_haste 39 = .ok (.goto 4, 3) := by decide +kernel
theorem dX8_haste_42 : decode cX8_haste 42 = .ok (.iload_n 1, 1) := by decide +kernel
theorem dX8_haste_43 : decode cX8_haste 43 = .ok (.istore_n 1, 1) := by decide +kernel
theorem dX8_haste_44 : decode cX8_haste 44 = .ok (.iinc 2 1, 3) := by decide +kernel
theorem dX8_haste_47 : decode cX8_haste 47 = .ok (.goto (-33), 3) := by decide +kernel
theorem dX8_haste_50 : decode cX8_haste 50 = .ok (.iload_n 1, 1) := by decide +kernel
theorem dX8_haste_51 : decode cX8_haste 51 = .ok (.ireturn, 1) := by decide +kernel
set_option maxRecDepth 20000 in
theorem ggX8_reading_X8_isPerson : GoodIn wsX8_reading wsX8_isPerson := goodIn_r _ [9, 10, 14, 15, 16, 17, 18, 19, 20, 21, 22, 23, 24, 25, 26, 27, 28, 29, 30, 31, 32, 33, 34] (by decide +kernel) (by decide +kernel)
set_option maxRecDepth 20000 in
theorem gX8_reading_X8_isPerson : GoodIn wsX8_reading (wsV RX8 63 RX8 yX8_isPerson wsX8_isPerson) := goodIn_app (goodIn_of _ (by decide +kernel)) ggX8_reading_X8_isPerson
set_option maxRecDepth 20000 in
theorem ggX8_reading_X8_within : GoodIn wsX8_reading wsX8_within := goodIn_r _ [13] (by decide +kernel) (by decide +kernel)
set_option maxRecDepth 20000 in
theorem gX8_reading_X8_within : GoodIn wsX8_reading (va_wsS RX8 56 yX8_within wsX8_within) := goodIn_app (goodIn_of _ (by decide +kernel)) ggX8_reading_X8_within
theorem dX8_reading_0 : decode cX8_reading 0 = .ok (.aload_n 0, 1) := by decide +kernel
theorem dX8_reading_1 : decode cX8_reading 1 = .ok (.iload_n 2, 1) := by decide +kernel
theorem dX8_reading_2 : decode cX8_reading 2 = .ok (.invokevirtual 63, 3) := by decide +kernel
theorem dX8_reading_5 : decode cX8_reading 5 = .ok (.ifCond .eq 17, 3) := by decide +kernel
theorem dX8_reading_8 : decode cX8_reading 8 = .ok (.iload_n 3, 1) := by decide +kernel
theorem dX8_reading_9 : decode cX8_reading 9 = .ok (.bipush (-9), 2) := by decide +kernel
theorem dX8_reading_11 : decode cX8_reading 11 = .ok (.if_icmp .eq 13, 3) := by decide +kernel
theorem dX8_reading_14 : decode cX8_reading 14 = .ok (.aload_n 0, 1) := by decide +kernel
theorem dX8_reading_15 : decode cX8_reading 15 = .ok (.iload_n 3, 1) := by decide +kernel
theorem dX8_reading_16 : decode cX8_reading 16 = .ok (.invokevirtual 63, 3) := by decide +kernel
theorem dX8_reading_19 : decode cX8_reading 19 = .ok (.ifCond .ne 5, 3) := by decide +kernel
theorem dX8_reading_22 : decode cX8_reading 22 = .ok (.iconst (-1), 1) := by decide +kernel
theorem dX8_reading_23 : decode cX8_reading 23 = .ok (.ireturn, 1) := by decide +kernel
theorem dX8_reading_24 : decode cX8_reading 24 = .ok (.iload_n 1, 1) := by decide +kernel
theorem dX8_reading_25 : decode cX8_reading 25 = .ok (.iconst 0, 1) := by decide +kernel
theorem dX8_reading_26 : decode cX8_reading 26 = .ok (.bipush 10, 2) := by decide +kernel
theorem dX8_reading_28 : decode cX8_reading 28 = .ok (.invokestatic 56, 3) := by decide +kernel
theorem dX8_reading_31 : decode cX8_reading 31 = .ok (.ifCond .ne 6, 3) := by decide +kernel
theorem dX8_reading_34 : decode cX8_reading 34 = .ok (.bipush (-2), 2) := by decide +kernel
theorem dX8_reading_36 : decode cX8_reading 36 = .ok (.ireturn, 1) := by decide +kernel
theorem dX8_reading_37 : decode cX8_reading 37 = .ok (.aload_n 0, 1) := by decide +kernel
theorem dX8_reading_38 : decode cX8_reading 38 = .ok (.getfield 96, 3) := by decide +kernel
theorem dX8_reading_41 : decode cX8_reading 41 = .ok (.bipush 8, 2) := by decide +kernel
theorem dX8_reading_43 : decode cX8_reading 43 = .ok (.if_icmp .ne 6, 3) := by decide +kernel
theorem dX8_reading_46 : decode cX8_reading 46 = .ok (.bipush (-4), 2) := by decide +kernel
theorem dX8_reading_48 : decode cX8_reading 48 = .ok (.ireturn, 1) := by decide +kernel
theorem dX8_reading_49 : decode cX8_reading 49 = .ok (.aload_n 0, 1) := by decide +kernel
theorem dX8_reading_50 : decode cX8_reading 50 = .ok (.getfield 41, 3) := by decide +kernel
theorem dX8_reading_53 : decode cX8_reading 53 = .ok (.aload_n 0, 1) := by decide +kernel
theorem dX8_reading_54 : decode cX8_reading 54 = .ok (.getfield 96, 3) := by decide +kernel
theorem dX8_reading_57 : decode cX8_reading 57 = .ok (.iload_n 1, 1) := by decide +kernel
theorem dX8_reading_58 : decode cX8_reading 58 = .ok (.iastore, 1) := by decide +kernel
theorem dX8_reading_59 : decode cX8_reading 59 = .ok (.aload_n 0, 1) := by decide +kernel
theorem dX8_reading_60 : decode cX8_reading 60 = .ok (.getfield 44, 3) := by decide +kernel
theorem dX8_reading_63 : decode cX8_reading 63 = .ok (.aload_n 0, 1) := by decide +kernel
theorem dX8_reading_64 : decode cX8_reading 64 = .ok (.getfield 96, 3) := by decide +kernel
theorem dX8_reading_67 : decode cX8_reading 67 = .ok (.iload_n 2, 1) := by decide +kernel
theorem dX8_reading_68 : decode cX8_reading 68 = .ok (.iastore, 1) := by decide +kernel
theorem dX8_reading_69 : decode cX8_reading 69 = .ok (.aload_n 0, 1) := by decide +kernel
theorem dX8_reading_70 : decode cX8_reading 70 = .ok (.getfield 47, 3) := by decide +kernel
theorem dX8_reading_73 : decode cX8_reading 73 = .ok (.aload_n 0, 1) := by decide +kernel
theorem dX8_reading_74 : decode cX8_reading 74 = .ok (.getfield 96, 3) := by decide +kernel
theorem dX8_reading_77 : decode cX8_reading 77 = .ok (.iload_n 3, 1) := by decide +kernel
theorem dX8_reading_78 : decode cX8_reading 78 = .ok (.iastore, 1) := by decide +kernel
theorem dX8_reading_79 : decode cX8_reading 79 = .ok (.aload_n 0, 1) := by decide +kernel
theorem dX8_reading_80 : decode cX8_reading 80 = .ok (.dup, 1) := by decide +kernel
theorem dX8_reading_81 : decode cX8_reading 81 = .ok (.getfield 96, 3) := by decide +kernel
theorem dX8_reading_84 : decode cX8_reading 84 = .ok (.iconst 1, 1) := by decide +kernel
theorem dX8_reading_85 : decode cX8_reading 85 = .ok (.iadd, 1) := by decide +kernel
theorem dX8_reading_86 : decode cX8_reading 86 = .ok (.putfield 96, 3) := by decide +kernel
theorem dX8_reading_89 : decode cX8_reading 89 = .ok (.aload_n 0, 1) := by decide +kernel
theorem dX8_reading_90 : decode cX8_reading 90 = .ok (.getfield 96, 3) := by decide +kernel
theorem dX8_reading_93 : decode cX8_reading 93 = .ok (.iconst 1, 1) := by decide +kernel
theorem dX8_reading_94 : decode cX8_reading 94 = .ok (.isub, 1) := by decide +kernel
theorem dX8_reading_95 : decode cX8_reading 95 = .ok (.ireturn, 1) := by decide +kernel
set_option maxRecDepth 20000 in
theorem ggX8_back_X8_within : GoodIn wsX8_back wsX8_within := goodIn_r _ [5] (by decide +kernel) (by decide +kernel)
set_option maxRecDepth 20000 in
theorem gX8_back_X8_within : GoodIn wsX8_back (va_wsS RX8 56 yX8_within wsX8_within) := goodIn_app (goodIn_of _ (by decide +kernel)) ggX8_back_X8_within
theorem dX8_back_0 : decode cX8_back 0 = .ok (.iload_n 1, 1) := by decide +kernel
theorem dX8_back_1 : decode cX8_back 1 = .ok (.iconst 0, 1) := by decide +kernel
theorem dX8_back_2 : decode cX8_back 2 = .ok (.aload_n 0, 1) := by decide +kernel
theorem dX8_back_3 : decode cX8_back 3 = .ok (.getfield 96, 3) := by decide +kernel
theorem dX8_back_6 : decode cX8_back 6 = .ok (.invokestatic 56, 3) := by decide +kernel
theorem dX8_back_9 : decode cX8_back 9 = .ok (.ifCond .ne 6, 3) := by decide +kernel
theorem dX8_back_12 : decode cX8_back 12 = .ok (.bipush (-2), 2) := by decide +kernel
theorem dX8_back_14 : decode cX8_back 14 = .ok (.ireturn, 1) := by decide +kernel
theorem dX8_back_15 : decode cX8_back 15 = .ok (.aload_n 0, 1) := by decide +kernel
theorem dX8_back_16 : decode cX8_back 16 = .ok (.dup, 1) := by decide +kernel
theorem dX8_back_17 : decode cX8_back 17 = .ok (.getfield 96, 3) := by decide +kernel
theorem dX8_back_20 : decode cX8_back 20 = .ok (.iload_n 1, 1) := by decide +kernel
theorem dX8_back_21 : decode cX8_back 21 = .ok (.isub, 1) := by decide +kernel
theorem dX8_back_22 : decode cX8_back 22 = .ok (.putfield 96, 3) := by decide +kernel
theorem dX8_back_25 : decode cX8_back 25 = .ok (.aload_n 0, 1) := by decide +kernel
theorem dX8_back_26 : decode cX8_back 26 = .ok (.getfield 96, 3) := by decide +kernel
theorem dX8_back_29 : decode cX8_back 29 = .ok (.ireturn, 1) := by decide +kernel
set_option maxRecDepth 20000 in
theorem ggX8_areSo_X8_keep : GoodIn wsX8_areSo wsX8_keep := goodIn_r _ [9, 10, 11, 48, 49, 50, 51, 52, 53, 54, 55, 56, 57, 58, 59, 60, 61, 62, 63, 64, 65, 66, 67, 68] (by decide +kernel) (by decide +kernel)
set_option maxRecDepth 20000 in
theorem gX8_areSo_X8_keep : GoodIn wsX8_areSo (wsV RX8 142 RX8 yX8_keep wsX8_keep) := goodIn_app (goodIn_of _ (by decide +kernel)) ggX8_areSo_X8_keep
set_option maxRecDepth 20000 in
theorem ggX8_areSo_X8_lighterOf : GoodIn wsX8_areSo wsX8_lighterOf := goodIn_r _ [15, 16, 17, 18, 19, 8, 20, 11, 21, 22, 23, 24, 48, 49, 50, 51, 52, 53, 54, 55, 56, 57, 58, 59, 60, 61, 62, 63, 64, 65, 66, 67, 68] (by decide +kernel) (by decide +kernel)
set_option maxRecDepth 20000 in
theorem gX8_areSo_X8_lighterOf : GoodIn wsX8_areSo (wsV RX8 117 RX8 yX8_lighterOf wsX8_lighterOf) := goodIn_app (goodIn_of _ (by decide +kernel)) ggX8_areSo_X8_lighterOf
set_option maxRecDepth 20000 in
theorem ggX8_areSo_X8_goDusk : GoodIn wsX8_areSo wsX8_goDusk := goodIn_r _ [28, 16, 29, 30, 11, 12, 13, 14, 8, 15, 17, 18, 19, 20, 21, 22, 23, 24, 31, 32, 33, 34, 35, 36, 37, 38, 39, 40, 41, 42, 43, 48, 49, 50, 51, 52, 53, 54, 55, 56, 57, 58, 59, 60, 61, 62, 63, 64, 65, 66, 67, 68] (by decide +kernel) (by decide +kernel)
set_option maxRecDepth 20000 in
theorem gX8_areSo_X8_goDusk : GoodIn wsX8_areSo (wsV RX8 135 RX8 yX8_goDusk wsX8_goDusk) := goodIn_app (goodIn_of _ (by decide +kernel)) ggX8_areSo_X8_goDusk
set_option maxRecDepth 20000 in
theorem ggX8_areSo_X8_restore : GoodIn wsX8_areSo wsX8_restore := goodIn_r _ [47, 11, 10, 48, 49, 50, 51, 52, 53, 54, 55, 56, 57, 58, 59, 60, 61, 62, 63, 64, 65, 66, 67, 68] (by decide +kernel) (by decide +kernel)
set_option maxRecDepth 20000 in
theorem gX8_areSo_X8_restore : GoodIn wsX8_areSo (wsV RX8 145 RX8 yX8_restore wsX8_restore) := goodIn_app (goodIn_of _ (by decide +kernel)) ggX8_areSo_X8_restore
theorem dX8_areSo_0 : decode cX8_areSo 0 = .ok (.aload_n 0, 1) := by decide +kernel
theorem dX8_areSo_1 : decode cX8_areSo 1 = .ok (.invokevirtual 142, 3) := by decide +kernel
theorem dX8_areSo_4 : decode cX8_areSo 4 = .ok (.iconst 1, 1) := by decide +kernel
theorem dX8_areSo_5 : decode cX8_areSo 5 = .ok (.istore_n 1, 1) := by decide +kernel
theorem dX8_areSo_6 : decode cX8_areSo 6 = .ok (.iconst 0, 1) := by decide +kernel
theorem dX8_areSo_7 : decode cX8_areSo 7 = .ok (.istore_n 2, 1) := by decide +kernel
theorem dX8_areSo_8 : decode cX8_areSo 8 = .ok (.iload_n 2, 1) := by decide +kernel
theorem dX8_areSo_9 : decode cX8_areSo 9 = .ok (.bipush 10, 2) := by decide +kernel
theorem dX8_areSo_11 : decode cX8_areSo 11 = .ok (.if_icmp .gt 72, 3) := by decide +kernel
theorem dX8_areSo_14 : decode cX8_areSo 14 = .ok (.iload_n 1, 1) := by decide +kernel
theorem dX8_areSo_15 : decode cX8_areSo 15 = .ok (.ifCond .eq 68, 3) := by decide +kernel
theorem dX8_areSo_18 : decode cX8_areSo 18 = .ok (.iconst 0, 1) := by decide +kernel
theorem dX8_areSo_19 : decode cX8_areSo 19 = .ok (.istore_n 3, 1) := by decide +kernel
theorem dX8_areSo_20 : decode cX8_areSo 20 = .ok (.iload_n 3, 1) := by decide +kernel
theorem dX8_areSo_21 : decode cX8_areSo 21 = .ok (.aload_n 0, 1) := by decide +kernel
theorem dX8_areSo_22 : decode cX8_areSo 22 = .ok (.getfield 96, 3) := by decide +kernel
theorem dX8_areSo_25 : decode cX8_areSo 25 = .ok (.if_icmp .ge 48, 3) := by decide +kernel
theorem dX8_areSo_28 : decode cX8_areSo 28 = .ok (.iload_n 1, 1) := by decide +kernel
theorem dX8_areSo_29 : decode cX8_areSo 29 = .ok (.ifCond .eq 36, 3) := by decide +kernel
theorem dX8_areSo_32 : decode cX8_areSo 32 = .ok (.aload_n 0, 1) := by decide +kernel
theorem dX8_areSo_33 : decode cX8_areSo 33 = .ok (.getfield 41, 3) := by decide +kernel
theorem dX8_areSo_36 : decode cX8_areSo 36 = .ok (.iload_n 3, 1) := by decide +kernel
theorem dX8_areSo_37 : decode cX8_areSo 37 = .ok (.iaload, 1) := by decide +kernel
theorem dX8_areSo_38 : decode cX8_areSo 38 = .ok (.iload_n 2, 1) := by decide +kernel
theorem dX8_areSo_39 : decode cX8_areSo 39 = .ok (.if_icmp .ne 22, 3) := by decide +kernel
theorem dX8_areSo_42 : decode cX8_areSo 42 = .ok (.aload_n 0, 1) := by decide +kernel
theorem dX8_areSo_43 : decode cX8_areSo 43 = .ok (.aload_n 0, 1) := by decide +kernel
theorem dX8_areSo_44 : decode cX8_areSo 44 = .ok (.getfield 44, 3) := by decide +kernel
theorem dX8_areSo_47 : decode cX8_areSo 47 = .ok (.iload_n 3, 1) := by decide +kernel
theorem dX8_areSo_48 : decode cX8_areSo 48 = .ok (.iaload, 1) := by decide +kernel
theorem dX8_areSo_49 : decode cX8_areSo 49 = .ok (.invokevirtual 117, 3) := by decide +kernel
theorem dX8_areSo_52 : decode cX8_areSo 52 = .ok (.aload_n 0, 1) := by decide +kernel
theorem dX8_areSo_53 : decode cX8_areSo 53 = .ok (.getfield 47, 3) := by decide +kernel
theorem dX8_areSo_56 : decode cX8_areSo 56 = .ok (.iload_n 3, 1) := by decide +kernel
theorem dX8_areSo_57 : decode cX8_areSo 57 = .ok (.iaload, 1) := by decide +kernel
theorem dX8_areSo_58 : decode cX8_areSo 58 = .ok (.if_icmp .ne 7, 3) := by decide +kernel
theorem dX8_areSo_61 : decode cX8_areSo 61 = .ok (.iconst 1, 1) := by decide +kernel
theorem dX8_areSo_62 : decode cX8_areSo 62 = .ok (.goto 4, 3) := by decide +kernel
theorem dX8_areSo_65 : decode cX8_areSo 65 = .ok (.iconst 0, 1) := by decide +kernel
theorem dX8_areSo_66 : decode cX8_areSo 66 = .ok (.istore_n 1, 1) := by decide +kernel
theorem dX8_areSo_67 : decode cX8_areSo 67 = .ok (.iinc 3 1, 3) := by decide +kernel
theorem dX8_areSo_70 : decode cX8_areSo 70 = .ok (.goto (-50), 3) := by decide +kernel
theorem dX8_areSo_73 : decode cX8_areSo 73 = .ok (.aload_n 0, 1) := by decide +kernel
theorem dX8_areSo_74 : decode cX8_areSo 74 = .ok (.invokevirtual 135, 3) := by decide +kernel
theorem dX8_areSo_77 : decode cX8_areSo 77 = .ok (.iinc 2 1, 3) := by decide +kernel
theorem dX8_areSo_80 : decode cX8_areSo 80 = .ok (.goto (-72), 3) := by decide +kernel
theorem dX8_areSo_83 : decode cX8_areSo 83 = .ok (.aload_n 0, 1) := by decide +kernel
theorem dX8_areSo_84 : decode cX8_areSo 84 = .ok (.invokevirtual 145, 3) := by decide +kernel
theorem dX8_areSo_87 : decode cX8_areSo 87 = .ok (.iload_n 1, 1) := by decide +kernel
theorem dX8_areSo_88 : decode cX8_areSo 88 = .ok (.ireturn, 1) := by decide +kernel
set_option maxRecDepth 20000 in
theorem ggX8_debts_X8_areTwo : GoodIn wsX8_debts wsX8_areTwo := goodIn_r _ [6, 7, 8, 9, 5, 10, 11, 60, 61, 62, 63, 64, 65, 66, 67, 68, 69, 70, 71, 72, 73, 74, 75, 76, 77, 78, 79, 80] (by decide +kernel) (by decide +kernel)
set_option maxRecDepth 20000 in
theorem gX8_debts_X8_areTwo : GoodIn wsX8_debts (wsV RX8 132 RX8 yX8_areTwo wsX8_areTwo) := goodIn_app (goodIn_of _ (by decide +kernel)) ggX8_debts_X8_areTwo
set_option maxRecDepth 20000 in
theorem ggX8_debts_X8_spot : GoodIn wsX8_debts wsX8_spot := goodIn_r _ [14] (by decide +kernel) (by decide +kernel)
set_option maxRecDepth 20000 in
theorem gX8_debts_X8_spot : GoodIn wsX8_debts (va_wsS RX8 110 yX8_spot wsX8_spot) := goodIn_app (goodIn_of _ (by decide +kernel)) ggX8_debts_X8_spot
set_option maxRecDepth 20000 in
theorem ggX8_debts_X8_areSo : GoodIn wsX8_debts wsX8_areSo := goodIn_r _ [18, 19, 20, 21, 22, 23, 24, 25, 5, 26, 27, 1, 28, 29, 30, 31, 11, 32, 33, 34, 35, 36, 12, 13, 14, 37, 38, 39, 40, 41, 42, 43, 44, 45, 46, 47, 48, 49, 50, 51, 52, 53, 54, 55, 56, 57, 58, 59, 60, 61, 62, 63, 64, 65, 66, 67, 68, 69, 70, 71, 72, 73, 74, 75, 76, 77, 78, 79, 80] (by decide +kernel) (by decide +kernel)
set_option maxRecDepth 20000 in
theorem gX8_debts_X8_areSo : GoodIn wsX8_debts (wsV RX8 151 RX8 yX8_areSo wsX8_areSo) := goodIn_app (goodIn_of _ (by decide +kernel)) ggX8_debts_X8_areSo
theorem dX8_debts_0 : decode cX8_debts 0 = .ok (.aload_n 0, 1) := by decide +kernel
theorem dX8_debts_1 : decode cX8_debts 1 = .ok (.iload_n 1, 1) := by decide +kernel
theorem dX8_debts_2 : decode cX8_debts 2 = .ok (.iload_n 2, 1) := by decide +kernel
theorem dX8_debts_3 : decode cX8_debts 3 = .ok (.invokevirtual 132, 3) := by decide +kernel
theorem dX8_debts_6 : decode cX8_debts 6 = .ok (.ifCond .ne 5, 3) := by decide +kernel
theorem dX8_debts_9 : decode cX8_debts 9 = .ok (.iconst (-1), 1) := by decide +kernel
theorem dX8_debts_10 : decode cX8_debts 10 = .ok (.ireturn, 1) := by decide +kernel
theorem dX8_debts_11 : decode cX8_debts 11 = .ok (.aload_n 0, 1) := by decide +kernel
theorem dX8_debts_12 : decode cX8_debts 12 = .ok (.getfield 22, 3) := by decide +kernel
theorem dX8_debts_15 : decode cX8_debts 15 = .ok (.iload_n 1, 1) := by decide +kernel
theorem dX8_debts_16 : decode cX8_debts 16 = .ok (.iload_n 2, 1) := by decide +kernel
theorem dX8_debts_17 : decode cX8_debts 17 = .ok (.invokestatic 110, 3) := by decide +kernel
theorem dX8_debts_20 : decode cX8_debts 20 = .ok (.iaload, 1) := by decide +kernel
theorem dX8_debts_21 : decode cX8_debts 21 = .ok (.istore_n 3, 1) := by decide +kernel
theorem dX8_debts_22 : decode cX8_debts 22 = .ok (.iconst 0, 1) := by decide +kernel
theorem dX8_debts_23 : decode cX8_debts 23 = .ok (.istore 4, 2) := by decide +kernel
theorem dX8_debts_25 : decode cX8_debts 25 = .ok (.iconst 0, 1) := by decide +kernel
theorem dX8_debts_26 : decode cX8_debts 26 = .ok (.istore 5, 2) := by decide +kernel
theorem dX8_debts_28 : decode cX8_debts 28 = .ok (.iload 5, 2) := by decide +kernel
theorem dX8_debts_30 : decode cX8_debts 30 = .ok (.bipush 9, 2) := by decide +kernel
theorem dX8_debts_32 : decode cX8_debts 32 = .ok (.if_icmp .gt 41, 3) := by decide +kernel
theorem dX8_debts_35 : decode cX8_debts 35 = .ok (.aload_n 0, 1) := by decide +kernel
theorem dX8_debts_36 : decode cX8_debts 36 = .ok (.getfield 22, 3) := by decide +kernel
theorem dX8_debts_39 : decode cX8_debts 39 = .ok (.iload_n 1, 1) := by decide +kernel
theorem dX8_debts_40 : decode cX8_debts 40 = .ok (.iload_n 2, 1) := by decide +kernel
theorem dX8_debts_41 : decode cX8_debts 41 = .ok (.invokestatic 110, 3) := by decide +kernel
theorem dX8_debts_44 : decode cX8_debts 44 = .ok (.iload 5, 2) := by decide +kernel
theorem dX8_debts_46 : decode cX8_debts 46 = .ok (.iastore, 1) := by decide +kernel
theorem dX8_debts_47 : decode cX8_debts 47 = .ok (.iload 4, 2) := by decide +kernel
theorem dX8_debts_49 : decode cX8_debts 49 = .ok (.aload_n 0, 1) := by decide +kernel
theorem dX8_debts_50 : decode cX8_debts 50 = .ok (.invokevirtual 151, 3) := by decide +kernel
theorem dX8_debts_53 : decode cX8_debts 53 = .ok (.ifCond .eq 10, 3) := by decide +kernel
theorem dX8_debts_56 : decode cX8_debts 56 = .ok (.iconst 1, 1) := by decide +kernel
theorem dX8_debts_57 : decode cX8_debts 57 = .ok (.iload 5, 2) := by decide +kernel
theorem dX8_debts_59 : decode cX8_debts 59 = .ok (.ishl, 1) := by decide +kernel
theorem dX8_debts_60 : decode cX8_debts 60 = .ok (.goto 4, 3) := by decide +kernel
theorem dX8_debts_63 : decode cX8_debts 63 = .ok (.iconst 0, 1) := by decide +kernel
theorem dX8_debts_64 : decode cX8_debts 64 = .ok (.ior, 1) := by decide +kernel
theorem dX8_debts_65 : decode cX8_debts 65 = .ok (.istore 4, 2) := by decide +kernel
theorem dX8_debts_67 : decode cX8_debts 67 = .ok (.iinc 5 1, 3) := by decide +kernel
theorem dX8_debts_70 : decode cX8_debts 70 = .ok (.goto (-42), 3) := by decide +kernel
theorem dX8_debts_73 : decode cX8_debts 73 = .ok (.aload_n 0, 1) := by decide +kernel
theorem dX8_debts_74 : decode cX8_debts 74 = .ok (.getfield 22, 3) := by decide +kernel
theorem dX8_debts_77 : decode cX8_debts 77 = .ok (.iload_n 1, 1) := by decide +kernel
theorem dX8_debts_78 : decode cX8_debts 78 = .ok (.iload_n 2, 1) := by decide +kernel
theorem dX8_debts_79 : decode cX8_debts 79 = .ok (.invokestatic 110, 3) := by decide +kernel
theorem dX8_debts_82 : decode cX8_debts 82 = .ok (.iload_n 3, 1) := by decide +kernel
theorem dX8_debts_83 : decode cX8_debts 83 = .ok (.iastore, 1) := by decide +kernel
theorem dX8_debts_84 : decode cX8_debts 84 = .ok (.iload 4, 2) := by decide +kernel
theorem dX8_debts_86 : decode cX8_debts 86 = .ok (.ireturn, 1) := by decide +kernel
set_option maxRecDepth 20000 in
theorem ggX8_kinds_X8_isPerson : GoodIn wsX8_kinds wsX8_isPerson := goodIn_r _ [6, 7, 56, 57, 58, 59, 60, 61, 62, 63, 64, 65, 66, 67, 68, 69, 70, 71, 72, 73, 74, 75, 76] (by decide +kernel) (by decide +kernel)
set_option maxRecDepth 20000 in
theorem gX8_kinds_X8_isPerson : GoodIn wsX8_kinds (wsV RX8 63 RX8 yX8_isPerson wsX8_isPerson) := goodIn_app (goodIn_of _ (by decide +kernel)) ggX8_kinds_X8_isPerson
set_option maxRecDepth 20000 in
theorem ggX8_kinds_X8_areSo : GoodIn wsX8_kinds wsX8_areSo := goodIn_r _ [11, 12, 13, 14, 15, 16, 17, 18, 5, 19, 20, 21, 22, 23, 24, 25, 7, 26, 27, 28, 29, 1, 30, 31, 32, 33, 34, 35, 36, 37, 38, 39, 40, 41, 42, 43, 44, 45, 46, 47, 48, 49, 50, 51, 52, 53, 54, 55, 56, 57, 58, 59, 60, 61, 62, 63, 64, 65, 66, 67, 68, 69, 70, 71, 72, 73, 74, 75, 76] (by decide +kernel) (by decide +kernel)
set_option maxRecDepth 20000 in
theorem gX8_kinds_X8_areSo : GoodIn wsX8_kinds (wsV RX8 151 RX8 yX8_areSo wsX8_areSo) := goodIn_app (goodIn_of _ (by decide +kernel)) ggX8_kinds_X8_areSo
theorem dX8_kinds_0 : decode cX8_kinds 0 = .ok (.aload_n 0, 1) := by decide +kernel
theorem dX8_kinds_1 : decode cX8_kinds 1 = .ok (.iload_n 1, 1) := by decide +kernel
theorem dX8_kinds_2 : decode cX8_kinds 2 = .ok (.invokevirtual 63, 3) := by decide +kernel
theorem dX8_kinds_5 : decode cX8_kinds 5 = .ok (.ifCond .ne 5, 3) := by decide +kernel
theorem dX8_kinds_8 : decode cX8_kinds 8 = .ok (.iconst (-1), 1) := by decide +kernel
theorem dX8_kinds_9 : decode cX8_kinds 9 = .ok (.ireturn, 1) := by decide +kernel
theorem dX8_kinds_10 : decode cX8_kinds 10 = .ok (.aload_n 0, 1) := by decide +kernel
theorem dX8_kinds_11 : decode cX8_kinds 11 = .ok (.getfield 19, 3) := by decide +kernel
theorem dX8_kinds_14 : decode cX8_kinds 14 = .ok (.iload_n 1, 1) := by decide +kernel
theorem dX8_kinds_15 : decode cX8_kinds 15 = .ok (.iaload, 1) := by decide +kernel
theorem dX8_kinds_16 : decode cX8_kinds 16 = .ok (.istore_n 2, 1) := by decide +kernel
theorem dX8_kinds_17 : decode cX8_kinds 17 = .ok (.iconst 0, 1) := by decide +kernel
theorem dX8_kinds_18 : decode cX8_kinds 18 = .ok (.istore_n 3, 1) := by decide +kernel
theorem dX8_kinds_19 : decode cX8_kinds 19 = .ok (.iconst 0, 1) := by decide +kernel
theorem dX8_kinds_20 : decode cX8_kinds 20 = .ok (.istore 4, 2) := by decide +kernel
theorem dX8_kinds_22 : decode cX8_kinds 22 = .ok (.iload 4, 2) := by decide +kernel
theorem dX8_kinds_24 : decode cX8_kinds 24 = .ok (.iconst 3, 1) := by decide +kernel
theorem dX8_kinds_25 : decode cX8_kinds 25 = .ok (.if_icmp .ge 35, 3) := by decide +kernel
theorem dX8_kinds_28 : decode cX8_kinds 28 = .ok (.aload_n 0, 1) := by decide +kernel
theorem dX8_kinds_29 : decode cX8_kinds 29 = .ok (.getfield 19, 3) := by decide +kernel
theorem dX8_kinds_32 : decode cX8_kinds 32 = .ok (.iload_n 1, 1) := by decide +kernel
theorem dX8_kinds_33 : decode cX8_kinds 33 = .ok (.iload 4, 2) := by decide +kernel
theorem dX8_kinds_35 : decode cX8_kinds 35 = .ok (.iastore, 1) := by decide +kernel
theorem dX8_kinds_36 : decode cX8_kinds 36 = .ok (.iload_n 3, 1) := by decide +kernel
theorem dX8_kinds_37 : decode cX8_kinds 37 = .ok (.aload_n 0, 1) := by decide +kernel
theorem dX8_kinds_38 : decode cX8_kinds 38 = .ok (.invokevirtual 151, 3) := by decide +kernel
theorem dX8_kinds_41 : decode cX8_kinds 41 = .ok (.ifCond .eq 10, 3) := by decide +kernel
theorem dX8_kinds_44 : decode cX8_kinds 44 = .ok (.iconst 1, 1) := by decide +kernel
theorem dX8_kinds_45 : decode cX8_kinds 45 = .ok (.iload 4, 2) := by decide +kernel
theorem dX8_kinds_47 : decode cX8_kinds 47 = .ok (.ishl, 1) := by decide +kernel
theorem dX8_kinds_48 : decode cX8_kinds 48 = .ok (.goto 4, 3) := by decide +kernel
theorem dX8_kinds_51 : decode cX8_kinds 51 = .ok (.iconst 0, 1) := by decide +kernel
theorem dX8_kinds_52 : decode cX8_kinds 52 = .ok (.ior, 1) := by decide +kernel
theorem dX8_kinds_53 : decode cX8_kinds 53 = .ok (.istore_n 3, 1) := by decide +kernel
theorem dX8_kinds_54 : decode cX8_kinds 54 = .ok (.iinc 4 1, 3) := by decide +kernel
theorem dX8_kinds_57 : decode cX8_kinds 57 = .ok (.goto (-35), 3) := by decide +kernel
theorem dX8_kinds_60 : decode cX8_kinds 60 = .ok (.aload_n 0, 1) := by decide +kernel
theorem dX8_kinds_61 : decode cX8_kinds 61 = .ok (.getfield 19, 3) := by decide +kernel
theorem dX8_kinds_64 : decode cX8_kinds 64 = .ok (.iload_n 1, 1) := by decide +kernel
theorem dX8_kinds_65 : decode cX8_kinds 65 = .ok (.iload_n 2, 1) := by decide +kernel
theorem dX8_kinds_66 : decode cX8_kinds 66 = .ok (.iastore, 1) := by decide +kernel
theorem dX8_kinds_67 : decode cX8_kinds 67 = .ok (.iload_n 3, 1) := by decide +kernel
theorem dX8_kinds_68 : decode cX8_kinds 68 = .ok (.ireturn, 1) := by decide +kernel
set_option maxRecDepth 20000 in
theorem ggX8_bells_X8_areSo : GoodIn wsX8_bells wsX8_areSo := goodIn_r _ [7, 8, 9, 10, 11, 12, 13, 14, 6, 15, 16, 17, 18, 19, 20, 21, 1, 22, 23, 24, 25, 26, 27, 28, 29, 30, 31, 32, 33, 34, 35, 36, 37, 38, 39, 2, 40, 41, 42, 43, 44, 45, 46, 47, 48, 49, 50, 51, 52, 53, 54, 55, 56, 57, 58, 59, 60, 61, 62, 63, 64, 65, 66, 67, 68, 69, 70, 71, 72] (by decide +kernel) (by decide +kernel)
set_option maxRecDepth 20000 in
theorem gX8_bells_X8_areSo : GoodIn wsX8_bells (wsV RX8 151 RX8 yX8_areSo wsX8_areSo) := goodIn_app (goodIn_of _ (by decide +kernel)) ggX8_bells_X8_areSo
theorem dX8_bells_0 : decode cX8_bells 0 = .ok (.aload_n 0, 1) := by decide +kernel
theorem dX8_bells_1 : decode cX8_bells 1 = .ok (.getfield 60, 3) := by decide +kernel
theorem dX8_bells_4 : decode cX8_bells 4 = .ok (.ifCond .ne 6, 3) := by decide +kernel
theorem dX8_bells_7 : decode cX8_bells 7 = .ok (.bipush (-3), 2) := by decide +kernel
theorem dX8_bells_9 : decode cX8_bells 9 = .ok (.ireturn, 1) := by decide +kernel
theorem dX8_bells_10 : decode cX8_bells 10 = .ok (.aload_n 0, 1) := by decide +kernel
theorem dX8_bells_11 : decode cX8_bells 11 = .ok (.getfield 93, 3) := by decide +kernel
theorem dX8_bells_14 : decode cX8_bells 14 = .ok (.istore_n 1, 1) := by decide +kernel
theorem dX8_bells_15 : decode cX8_bells 15 = .ok (.iconst 0, 1) := by decide +kernel
theorem dX8_bells_16 : decode cX8_bells 16 = .ok (.istore_n 2, 1) := by decide +kernel
theorem dX8_bells_17 : decode cX8_bells 17 = .ok (.iconst 0, 1) := by decide +kernel
theorem dX8_bells_18 : decode cX8_bells 18 = .ok (.istore_n 3, 1) := by decide +kernel
theorem dX8_bells_19 : decode cX8_bells 19 = .ok (.iload_n 3, 1) := by decide +kernel
theorem dX8_bells_20 : decode cX8_bells 20 = .ok (.bipush 9, 2) := by decide +kernel
theorem dX8_bells_22 : decode cX8_bells 22 = .ok (.if_icmp .gt 31, 3) := by decide +kernel
theorem dX8_bells_25 : decode cX8_bells 25 = .ok (.aload_n 0, 1) := by decide +kernel
theorem dX8_bells_26 : decode cX8_bells 26 = .ok (.iload_n 3, 1) := by decide +kernel
theorem dX8_bells_27 : decode cX8_bells 27 = .ok (.putfield 93, 3) := by decide +kernel
theorem dX8_bells_30 : decode cX8_bells 30 = .ok (.iload_n 2, 1) := by decide +kernel
theorem dX8_bells_31 : decode cX8_bells 31 = .ok (.aload_n 0, 1) := by decide +kernel
theorem dX8_bells_32 : decode cX8_bells 32 = .ok (.invokevirtual 151, 3) := by decide +kernel
theorem dX8_bells_35 : decode cX8_bells 35 = .ok (.ifCond .eq 9, 3) := by decide +kernel
theorem dX8_bells_38 : decode cX8_bells 38 = .ok (.iconst 1, 1) := by decide +kernel
theorem dX8_bells_39 : decode cX8_bells 39 = .ok (.iload_n 3, 1) := by decide +kernel
theorem dX8_bells_40 : decode cX8_bells 40 = .ok (.ishl, 1) := by decide +kernel
theorem dX8_bells_41 : decode cX8_bells 41 = .ok (.goto 4, 3) := by decide +kernel
theorem dX8_bells_44 : decode cX8_bells 44 = .ok (.iconst 0, 1) := by decide +kernel
theorem dX8_bells_45 : decode cX8_bells 45 = .ok (.ior, 1) := by decide +kernel
theorem dX8_bells_46 : decode cX8_bells 46 = .ok (.istore_n 2, 1) := by decide +kernel
theorem dX8_bells_47 : decode cX8_bells 47 = .ok (.iinc 3 1, 3) := by decide +kernel
theorem dX8_bells_50 : decode cX8_bells 50 = .ok (.goto (-31), 3) := by decide +kernel
theorem dX8_bells_53 : decode cX8_bells 53 = .ok (.aload_n 0, 1) := by decide +kernel
theorem dX8_bells_54 : decode cX8_bells 54 = .ok (.iload_n 1, 1) := by decide +kernel
theorem dX8_bells_55 : decode cX8_bells 55 = .ok (.putfield 93, 3) := by decide +kernel
theorem dX8_bells_58 : decode cX8_bells 58 = .ok (.iload_n 2, 1) := by decide +kernel
theorem dX8_bells_59 : decode cX8_bells 59 = .ok (.ireturn, 1) := by decide +kernel
theorem dX8_inLeastTerms_0 : decode cX8_inLeastTerms 0 = .ok (.lload_n 0, 1) := by decide +kernel
theorem dX8_inLeastTerms_1 : decode cX8_inLeastTerms 1 = .ok (.lstore 5, 2) := by decide +kernel
theorem dX8_inLeastTerms_3 : decode cX8_inLeastTerms 3 = .ok (.lload_n 2, 1) := by decide +kernel
theorem dX8_inLeastTerms_4 : decode cX8_inLeastTerms 4 = .ok (.lstore 7, 2) := by decide +kernel
theorem dX8_inLeastTerms_6 : decode cX8_inLeastTerms 6 = .ok (.lload 7, 2) := by decide +kernel
theorem dX8_inLeastTerms_8 : decode cX8_inLeastTerms 8 = .ok (.lconst 0, 1) := by decide +kernel
theorem dX8_inLeastTerms_9 : decode cX8_inLeastTerms 9 = .ok (.lcmp, 1) := by decide +kernel
theorem dX8_inLeastTerms_10 : decode cX8_inLeastTerms 10 = .ok (.ifCond .eq 21, 3) := by decide +kernel
theorem dX8_inLeastTerms_13 : decode cX8_inLeastTerms 13 = .ok (.lload 5, 2) := by decide +kernel
theorem dX8_inLeastTerms_15 : decode cX8_inLeastTerms 15 = .ok (.lload 7, 2) := by decide +kernel
theorem dX8_inLeastTerms_17 : decode cX8_inLeastTerms 17 = .ok (.lrem, 1) := by decide +kernel
theorem dX8_inLeastTerms_18 : decode cX8_inLeastTerms 18 = .ok (.lstore 9, 2) := by decide +kernel
theorem dX8_inLeastTerms_20 : decode cX8_inLeastTerms 20 = .ok (.lload 7, 2) := by decide +kernel
theorem dX8_inLeastTerms_22 : decode cX8_inLeastTerms 22 = .ok (.lstore 5, 2) := by decide +kernel
theorem dX8_inLeastTerms_24 : decode cX8_inLeastTerms 24 = .ok (.lload 9, 2) := by decide +kernel
theorem dX8_inLeastTerms_26 : decode cX8_inLeastTerms 26 = .ok (.lstore 7, 2) := by decide +kernel
theorem dX8_inLeastTerms_28 : decode cX8_inLeastTerms 28 = .ok (.goto (-22), 3) := by decide +kernel
theorem dX8_inLeastTerms_31 : decode cX8_inLeastTerms 31 = .ok (.iload 4, 2) := by decide +kernel
theorem dX8_inLeastTerms_33 : decode cX8_inLeastTerms 33 = .ok (.ifCond .ne 10, 3) := by decide +kernel
theorem dX8_inLeastTerms_36 : decode cX8_inLeastTerms 36 = .ok (.lload_n 0, 1) := by decide +kernel
theorem dX8_inLeastTerms_37 : decode cX8_inLeastTerms 37 = .ok (.lload 5, 2) := by decide +kernel
theorem dX8_inLeastTerms_39 : decode cX8_inLeastTerms 39 = .ok (.ldiv, 1) := by decide +kernel
theorem dX8_inLeastTerms_40 : decode cX8_inLeastTerms 40 = .ok (.goto 7, 3) := by decide +kernel
theorem dX8_inLeastTerms_43 : decode cX8_inLeastTerms 43 = .ok (.lload_n 2, 1) := by decide +kernel
theorem dX8_inLeastTerms_44 : decode cX8_inLeastTerms 44 = .ok (.lload 5, 2) := by decide +kernel
theorem dX8_inLeastTerms_46 : decode cX8_inLeastTerms 46 = .ok (.ldiv, 1) := by decide +kernel
theorem dX8_inLeastTerms_47 : decode cX8_inLeastTerms 47 = .ok (.lreturn, 1) := by decide +kernel
set_option maxRecDepth 20000 in
theorem ggX8_odds_X8_isPerson : GoodIn wsX8_odds wsX8_isPerson := goodIn_r _ [9, 2, 36, 37, 38, 39, 40, 41, 42, 43, 44, 45, 46, 47, 48, 49, 50, 51, 52, 53, 54, 55, 56] (by decide +kernel) (by decide +kernel)
set_option maxRecDepth 20000 in
theorem gX8_odds_X8_isPerson : GoodIn wsX8_odds (wsV RX8 63 RX8 yX8_isPerson wsX8_isPerson) := goodIn_app (goodIn_of _ (by decide +kernel)) ggX8_odds_X8_isPerson
set_option maxRecDepth 20000 in
theorem ggX8_odds_X8_within : GoodIn wsX8_odds wsX8_within := goodIn_r _ [12] (by decide +kernel) (by decide +kernel)
set_option maxRecDepth 20000 in
theorem gX8_odds_X8_within : GoodIn wsX8_odds (va_wsS RX8 56 yX8_within wsX8_within) := goodIn_app (goodIn_of _ (by decide +kernel)) ggX8_odds_X8_within
set_option maxRecDepth 20000 in
theorem ggX8_odds_X8_spot : GoodIn wsX8_odds wsX8_spot := goodIn_r _ [15] (by decide +kernel) (by decide +kernel)
set_option maxRecDepth 20000 in
theorem gX8_odds_X8_spot : GoodIn wsX8_odds (va_wsS RX8 110 yX8_spot wsX8_spot) := goodIn_app (goodIn_of _ (by decide +kernel)) ggX8_odds_X8_spot
set_option maxRecDepth 20000 in
theorem ggX8_odds_X8_keep : GoodIn wsX8_odds wsX8_keep := goodIn_r _ [19, 4, 3, 36, 37, 38, 39, 40, 41, 42, 43, 44, 45, 46, 47, 48, 49, 50, 51, 52, 53, 54, 55, 56] (by decide +kernel) (by decide +kernel)
set_option maxRecDepth 20000 in
theorem gX8_odds_X8_keep : GoodIn wsX8_odds (wsV RX8 142 RX8 yX8_keep wsX8_keep) := goodIn_app (goodIn_of _ (by decide +kernel)) ggX8_odds_X8_keep
set_option maxRecDepth 20000 in
theorem ggX8_odds_X8_lighterOf : GoodIn wsX8_odds wsX8_lighterOf := goodIn_r _ [23, 2, 24, 25, 26, 8, 27, 3, 28, 13, 14, 15, 36, 37, 38, 39, 40, 41, 42, 43, 44, 45, 46, 47, 48, 49, 50, 51, 52, 53, 54, 55, 56] (by decide +kernel) (by decide +kernel)
set_option maxRecDepth 20000 in
theorem gX8_odds_X8_lighterOf : GoodIn wsX8_odds (wsV RX8 117 RX8 yX8_lighterOf wsX8_lighterOf) := goodIn_app (goodIn_of _ (by decide +kernel)) ggX8_odds_X8_lighterOf
set_option maxRecDepth 20000 in
theorem ggX8_odds_X8_restore : GoodIn wsX8_odds wsX8_restore := goodIn_r _ [32, 3, 4, 36, 37, 38, 39, 40, 41, 42, 43, 44, 45, 46, 47, 48, 49, 50, 51, 52, 53, 54, 55, 56] (by decide +kernel) (by decide +kernel)
set_option maxRecDepth 20000 in
theorem gX8_odds_X8_restore : GoodIn wsX8_odds (wsV RX8 145 RX8 yX8_restore wsX8_restore) := goodIn_app (goodIn_of _ (by decide +kernel)) ggX8_odds_X8_restore
set_option maxRecDepth 20000 in
theorem ggX8_odds_X8_inLeastTerms : GoodIn wsX8_odds wsX8_inLeastTerms := goodIn_r _ [35] (by decide +kernel) (by decide +kernel)
set_option maxRecDepth 20000 in
theorem gX8_odds_X8_inLeastTerms : GoodIn wsX8_odds (va_wsS RX8 155 yX8_inLeastTerms wsX8_inLeastTerms) := goodIn_app (goodIn_of _ (by decide +kernel)) ggX8_odds_X8_inLeastTerms
theorem dX8_odds_0 : decode cX8_odds 0 = .ok (.aload_n 0, 1) := by decide +kernel
theorem dX8_odds_1 : decode cX8_odds 1 = .ok (.iload_n 1, 1) := by decide +kernel
theorem dX8_odds_2 : decode cX8_odds 2 = .ok (.invokevirtual 63, 3) := by decide +kernel
theorem dX8_odds_5 : decode cX8_odds 5 = .ok (.ifCond .eq 20, 3) := by decide +kernel
theorem dX8_odds_8 : decode cX8_odds 8 = .ok (.aload_n 0, 1) := by decide +kernel
theorem dX8_odds_9 : decode cX8_odds 9 = .ok (.iload_n 2, 1) := by decide +kernel
theorem dX8_odds_10 : decode cX8_odds 10 = .ok (.invokevirtual 63, 3) := by decide +kernel
theorem dX8_odds_13 : decode cX8_odds 13 = .ok (.ifCond .eq 12, 3) := by decide +kernel
theorem dX8_odds_16 : decode cX8_odds 16 = .ok (.iload_n 3, 1) := by decide +kernel
theorem dX8_odds_17 : decode cX8_odds 17 = .ok (.iconst 0, 1) := by decide +kernel
theorem dX8_odds_18 : decode cX8_odds 18 = .ok (.iconst 1, 1) := by decide +kernel
theorem dX8_odds_19 : decode cX8_odds 19 = .ok (.invokestatic 56, 3) := by decide +kernel
theorem dX8_odds_22 : decode cX8_odds 22 = .ok (.ifCond .ne 7, 3) := by decide +kernel
theorem dX8_odds_25 : decode cX8_odds 25 = .ok (.ldc2_w 54, 3) := by decide +kernel
theorem dX8_odds_28 : decode cX8_odds 28 = .ok (.lreturn, 1) := by decide +kernel
theorem dX8_odds_29 : decode cX8_odds 29 = .ok (.iconst 0, 1) := by decide +kernel
theorem dX8_odds_30 : decode cX8_odds 30 = .ok (.istore 4, 2) := by decide +kernel
theorem dX8_odds_32 : decode cX8_odds 32 = .ok (.iconst 0, 1) := by decide +kernel
theorem dX8_odds_33 : decode cX8_odds 33 = .ok (.istore 5, 2) := by decide +kernel
theorem dX8_odds_35 : decode cX8_odds 35 = .ok (.iload 5, 2) := by decide +kernel
theorem dX8_odds_37 : decode cX8_odds 37 = .ok (.aload_n 0, 1) := by decide +kernel
theorem dX8_odds_38 : decode cX8_odds 38 = .ok (.getfield 60, 3) := by decide +kernel
theorem dX8_odds_41 : decode cX8_odds 41 = .ok (.if_icmp .ge 36, 3) := by decide +kernel
theorem dX8_odds_44 : decode cX8_odds 44 = .ok (.iload 4, 2) := by decide +kernel
theorem dX8_odds_46 : decode cX8_odds 46 = .ok (.aload_n 0, 1) := by decide +kernel
theorem dX8_odds_47 : decode cX8_odds 47 = .ok (.getfield 22, 3) := by decide +kernel
theorem dX8_odds_50 : decode cX8_odds 50 = .ok (.iload 5, 2) := by decide +kernel
theorem dX8_odds_52 : decode cX8_odds 52 = .ok (.iload_n 1, 1) := by decide +kernel
theorem dX8_odds_53 : decode cX8_odds 53 = .ok (.invokestatic 110, 3) := by decide +kernel
theorem dX8_odds_56 : decode cX8_odds 56 = .ok (.iaload, 1) := by decide +kernel
theorem dX8_odds_57 : decode cX8_odds 57 = .ok (.ifCond .le 10, 3) := by decide +kernel
theorem dX8_odds_60 : decode cX8_odds 60 = .ok (.iconst 1, 1) := by decide +kernel
theorem dX8_odds_61 : decode cX8_odds 61 = .ok (.iload 5, 2) := by decide +kernel
theorem dX8_odds_63 : decode cX8_odds 63 = .ok (.ishl, 1) := by decide +kernel
theorem dX8_odds_64 : decode cX8_odds 64 = .ok (.goto 4, 3) := by decide +kernel
theorem dX8_odds_67 : decode cX8_odds 67 = .ok (.iconst 0, 1) := by decide +kernel
theorem dX8_odds_68 : decode cX8_odds 68 = .ok (.ior, 1) := by decide +kernel
theorem dX8_odds_69 : decode cX8_odds 69 = .ok (.istore 4, 2) := by decide +kernel
theorem dX8_odds_71 : decode cX8_odds 71 = .ok (.iinc 5 1, 3) := by decide +kernel
theorem dX8_odds_74 : decode cX8_odds 74 = .ok (.goto (-39), 3) := by decide +kernel
theorem dX8_odds_77 : decode cX8_odds 77 = .ok (.aload_n 0, 1) := by decide +kernel
theorem dX8_odds_78 : decode cX8_odds 78 = .ok (.invokevirtual 142, 3) := by decide +kernel
theorem dX8_odds_81 : decode cX8_odds 81 = .ok (.iconst 0, 1) := by decide +kernel
theorem dX8_odds_82 : decode cX8_odds 82 = .ok (.istore 5, 2) := by decide +kernel
theorem dX8_odds_84 : decode cX8_odds 84 = .ok (.iconst 0, 1) := by decide +kernel
theorem dX8_odds_85 : decode cX8_odds 85 = .ok (.istore 6, 2) := by decide +kernel
theorem dX8_odds_87 : decode cX8_odds 87 = .ok (.iconst 0, 1) := by decide +kernel
theorem dX8_odds_88 : decode cX8_odds 88 = .ok (.istore 7, 2) := by decide +kernel
theorem dX8_odds_90 : decode cX8_odds 90 = .ok (.iload 7, 2) := by decide +kernel
theorem dX8_odds_92 : decode cX8_odds 92 = .ok (.iconst 1, 1) := by decide +kernel
theorem dX8_odds_93 : decode cX8_odds 93 = .ok (.aload_n 0, 1) := by decide +kernel
theorem dX8_odds_94 : decode cX8_odds 94 = .ok (.getfield 60, 3) := by decide +kernel
theorem dX8_odds_97 : decode cX8_odds 97 = .ok (.ishl, 1) := by decide +kernel
theorem dX8_odds_98 : decode cX8_odds 98 = .ok (.if_icmp .ge 96, 3) := by decide +kernel
theorem dX8_odds_101 : decode cX8_odds 101 = .ok (.iload 7, 2) := by decide +kernel
theorem dX8_odds_103 : decode cX8_odds 103 = .ok (.iload 4, 2) := by decide +kernel
theorem dX8_odds_105 : decode cX8_odds 105 = .ok (.iconst (-1), 1) := by decide +kernel
theorem dX8_odds_106 : decode cX8_odds 106 = .ok (.ixor, 1) := by decide +kernel
theorem dX8_odds_107 : decode cX8_odds 107 = .ok (.iand, 1) := by decide +kernel
theorem dX8_odds_108 : decode cX8_odds 108 = .ok (.ifCond .ne 80, 3) := by decide +kernel
theorem dX8_odds_111 : decode cX8_odds 111 = .ok (.iinc 6 1, 3) := by decide +kernel
theorem dX8_odds_114 : decode cX8_odds 114 = .ok (.iconst 0, 1) := by decide +kernel
theorem dX8_odds_115 : decode cX8_odds 115 = .ok (.istore 8, 2) := by decide +kernel
theorem dX8_odds_117 : decode cX8_odds 117 = .ok (.iload 8, 2) := by decide +kernel
theorem dX8_odds_119 : decode cX8_odds 119 = .ok (.aload_n 0, 1) := by decide +kernel
theorem dX8_odds_120 : decode cX8_odds 120 = .ok (.getfield 60, 3) := by decide +kernel
theorem dX8_odds_123 : decode cX8_odds 123 = .ok (.if_icmp .ge 46, 3) := by decide +kernel
theorem dX8_odds_126 : decode cX8_odds 126 = .ok (.aload_n 0, 1) := by decide +kernel
theorem dX8_odds_127 : decode cX8_odds 127 = .ok (.getfield 22, 3) := by decide +kernel
theorem dX8_odds_130 : decode cX8_odds 130 = .ok (.iload 8, 2) := by decide +kernel
theorem dX8_odds_132 : decode cX8_odds 132 = .ok (.iload_n 1, 1) := by decide +kernel
theorem dX8_odds_133 : decode cX8_odds 133 = .ok (.invokestatic 110, 3) := by decide +kernel
theorem dX8_odds_136 : decode cX8_odds 136 = .ok (.iload 7, 2) := by decide +kernel
theorem dX8_odds_138 : decode cX8_odds 138 = .ok (.iload 8, 2) := by decide +kernel
theorem dX8_odds_140 : decode cX8_odds 140 = .ok (.ishr, 1) := by decide +kernel
theorem dX8_odds_141 : decode cX8_odds 141 = .ok (.iconst 1, 1) := by decide +kernel
theorem dX8_odds_142 : decode cX8_odds 142 = .ok (.iand, 1) := by decide +kernel
theorem dX8_odds_143 : decode cX8_odds 143 = .ok (.iconst 1, 1) := by decide +kernel
theorem dX8_odds_144 : decode cX8_odds 144 = .ok (.if_icmp .ne 7, 3) := by decide +kernel
theorem dX8_odds_147 : decode cX8_odds 147 = .ok (.iconst 0, 1) := by decide +kernel
theorem dX8_odds_148 : decode cX8_odds 148 = .ok (.goto 14, 3) := by decide +kernel
theorem dX8_odds_151 : decode cX8_odds 151 = .ok (.aload_n 0, 1) := by decide +kernel
theorem dX8_odds_152 : decode cX8_odds 152 = .ok (.getfield 38, 3) := by decide +kernel
theorem dX8_odds_155 : decode cX8_odds 155 = .ok (.iload 8, 2) := by decide +kernel
theorem dX8_odds_157 : decode cX8_odds 157 = .ok (.iload_n 1, 1) := by decide +kernel
theorem dX8_odds_158 : decode cX8_odds 158 = .ok (.invokestatic 110, 3) := by decide +kernel
theorem dX8_odds_161 : decode cX8_odds 161 = .ok (.iaload, 1) := by decide +kernel
theorem dX8_odds_162 : decode cX8_odds 162 = .ok (.iastore, 1) := by decide +kernel
theorem dX8_odds_163 : decode cX8_odds 163 = .ok (.iinc 8 1, 3) := by decide +kernel
theorem dX8_odds_166 : decode cX8_odds 166 = .ok (.goto (-49), 3) := by decide +kernel
theorem dX8_odds_169 : decode cX8_odds 169 = .ok (.iload 5, 2) := by decide +kernel
theorem dX8_odds_171 : decode cX8_odds 171 = .ok (.aload_n 0, 1) := by decide +kernel
theorem dX8_odds_172 : decode cX8_odds 172 = .ok (.iload_n 1, 1) := by decide +kernel
theorem dX8_odds_173 : decode cX8_odds 173 = .ok (.invokevirtual 117, 3) := by decide +kernel
theorem dX8_odds_176 : decode cX8_odds 176 = .ok (.iload_n 2, 1) := by decide +kernel
theorem dX8_odds_177 : decode cX8_odds 177 = .ok (.if_icmp .ne 7, 3) := by decide +kernel
theorem dX8_odds_180 : decode cX8_odds 180 = .ok (.iconst 1, 1) := by decide +kernel
theorem dX8_odds_181 : decode cX8_odds 181 = .ok (.goto 4, 3) := by decide +kernel
theorem dX8_odds_184 : decode cX8_odds 184 = .ok (.iconst 0, 1) := by decide +kernel
theorem dX8_odds_185 : decode cX8_odds 185 = .ok (.iadd, 1) := by decide +kernel
theorem dX8_odds_186 : decode cX8_odds 186 = .ok (.istore 5, 2) := by decide +kernel
theorem dX8_odds_188 : decode cX8_odds 188 = .ok (.iinc 7 1, 3) := by decide +kernel
theorem dX8_odds_191 : decode cX8_odds 191 = .ok (.goto (-101), 3) := by decide +kernel
theorem dX8_odds_194 : decode cX8_odds 194 = .ok (.aload_n 0, 1) := by decide +kernel
theorem dX8_odds_195 : decode cX8_odds 195 = .ok (.invokevirtual 145, 3) := by decide +kernel
theorem dX8_odds_198 : decode cX8_odds 198 = .ok (.iload 5, 2) := by decide +kernel
theorem dX8_odds_200 : decode cX8_odds 200 = .ok (.i2l, 1) := by decide +kernel
theorem dX8_odds_201 : decode cX8_odds 201 = .ok (.iload 6, 2) := by decide +kernel
theorem dX8_odds_203 : decode cX8_odds 203 = .ok (.i2l, 1) := by decide +kernel
theorem dX8_odds_204 : decode cX8_odds 204 = .ok (.iload_n 3, 1) := by decide +kernel
theorem dX8_odds_205 : decode cX8_odds 205 = .ok (.invokestatic 155, 3) := by decide +kernel
theorem dX8_odds_208 : decode cX8_odds 208 = .ok (.lreturn, 1) := by decide +kernel
set_option maxRecDepth 20000 in
theorem ggX8_sheet_X8_isSheet : GoodIn wsX8_sheet wsX8_isSheet := goodIn_r _ [8, 9, 10, 7, 11] (by decide +kernel) (by decide +kernel)
set_option maxRecDepth 20000 in
theorem gX8_sheet_X8_isSheet : GoodIn wsX8_sheet (va_wsS RX8 70 yX8_isSheet wsX8_isSheet) := goodIn_app (goodIn_of _ (by decide +kernel)) ggX8_sheet_X8_isSheet
set_option maxRecDepth 20000 in
theorem ggX8_sheet_X8_isSort : GoodIn wsX8_sheet wsX8_isSort := goodIn_r _ [14, 9, 10, 7, 11] (by decide +kernel) (by decide +kernel)
set_option maxRecDepth 20000 in
theorem gX8_sheet_X8_isSort : GoodIn wsX8_sheet (va_wsS RX8 73 yX8_isSort wsX8_isSort) := goodIn_app (goodIn_of _ (by decide +kernel)) ggX8_sheet_X8_isSort
set_option maxRecDepth 20000 in
theorem ggX8_sheet_X8_fails : GoodIn wsX8_sheet wsX8_fails := goodIn_r _ [18, 1, 19, 20, 21, 22, 23, 24, 25, 26, 27, 28, 29, 30, 31, 32, 33, 34, 35, 36, 37, 38, 39] (by decide +kernel) (by decide +kernel)
set_option maxRecDepth 20000 in
theorem gX8_sheet_X8_fails : GoodIn wsX8_sheet (wsV RX8 80 RX8 yX8_fails wsX8_fails) := goodIn_app (goodIn_of _ (by decide +kernel)) ggX8_sheet_X8_fails
theorem dX8_sheet_0 : decode cX8_sheet 0 = .ok (.aload_n 0, 1) := by decide +kernel
theorem dX8_sheet_1 : decode cX8_sheet 1 = .ok (.iconst 0, 1) := by decide +kernel
theorem dX8_sheet_2 : decode cX8_sheet 2 = .ok (.putfield 50, 3) := by decide +kernel
theorem dX8_sheet_5 : decode cX8_sheet 5 = .ok (.iload_n 1, 1) := by decide +kernel
theorem dX8_sheet_6 : decode cX8_sheet 6 = .ok (.invokestatic 70, 3) := by decide +kernel
theorem dX8_sheet_9 : decode cX8_sheet 9 = .ok (.ifCond .ne 5, 3) := by decide +kernel
theorem dX8_sheet_12 : decode cX8_sheet 12 = .ok (.iconst (-1), 1) := by decide +kernel
theorem dX8_sheet_13 : decode cX8_sheet 13 = .ok (.ireturn, 1) := by decide +kernel
theorem dX8_sheet_14 : decode cX8_sheet 14 = .ok (.iload_n 2, 1) := by decide +kernel
theorem dX8_sheet_15 : decode cX8_sheet 15 = .ok (.invokestatic 73, 3) := by decide +kernel
theorem dX8_sheet_18 : decode cX8_sheet 18 = .ok (.ifCond .eq 9, 3) := by decide +kernel
theorem dX8_sheet_21 : decode cX8_sheet 21 = .ok (.iload_n 3, 1) := by decide +kernel
theorem dX8_sheet_22 : decode cX8_sheet 22 = .ok (.bipush 60, 2) := by decide +kernel
theorem dX8_sheet_24 : decode cX8_sheet 24 = .ok (.if_icmp .le 6, 3) := by decide +kernel
theorem dX8_sheet_27 : decode cX8_sheet 27 = .ok (.bipush (-2), 2) := by decide +kernel
theorem dX8_sheet_29 : decode cX8_sheet 29 = .ok (.ireturn, 1) := by decide +kernel
theorem dX8_sheet_30 : decode cX8_sheet 30 = .ok (.iload_n 3, 1) := by decide +kernel
theorem dX8_sheet_31 : decode cX8_sheet 31 = .ok (.ifCond .ge 9, 3) := by decide +kernel
theorem dX8_sheet_34 : decode cX8_sheet 34 = .ok (.aload_n 0, 1) := by decide +kernel
theorem dX8_sheet_35 : decode cX8_sheet 35 = .ok (.iconst 4, 1) := by decide +kernel
theorem dX8_sheet_36 : decode cX8_sheet 36 = .ok (.invokevirtual 80, 3) := by decide +kernel
theorem dX8_sheet_39 : decode cX8_sheet 39 = .ok (.ireturn, 1) := by decide +kernel
theorem dX8_sheet_40 : decode cX8_sheet 40 = .ok (.aload_n 0, 1) := by decide +kernel
theorem dX8_sheet_41 : decode cX8_sheet 41 = .ok (.getfield 9, 3) := by decide +kernel
theorem dX8_sheet_44 : decode cX8_sheet 44 = .ok (.iload_n 1, 1) := by decide +kernel
theorem dX8_sheet_45 : decode cX8_sheet 45 = .ok (.iload_n 2, 1) := by decide +kernel
theorem dX8_sheet_46 : decode cX8_sheet 46 = .ok (.iastore, 1) := by decide +kernel
theorem dX8_sheet_47 : decode cX8_sheet 47 = .ok (.aload_n 0, 1) := by decide +kernel
theorem dX8_sheet_48 : decode cX8_sheet 48 = .ok (.getfield 13, 3) := by decide +kernel
theorem dX8_sheet_51 : decode cX8_sheet 51 = .ok (.iload_n 1, 1) := by decide +kernel
theorem dX8_sheet_52 : decode cX8_sheet 52 = .ok (.iload_n 3, 1) := by decide +kernel
theorem dX8_sheet_53 : decode cX8_sheet 53 = .ok (.iastore, 1) := by decide +kernel
theorem dX8_sheet_54 : decode cX8_sheet 54 = .ok (.iconst 0, 1) := by decide +kernel
theorem dX8_sheet_55 : decode cX8_sheet 55 = .ok (.istore 4, 2) := by decide +kernel
theorem dX8_sheet_57 : decode cX8_sheet 57 = .ok (.iload 4, 2) := by decide +kernel
theorem dX8_sheet_59 : decode cX8_sheet 59 = .ok (.bipush 60, 2) := by decide +kernel
theorem dX8_sheet_61 : decode cX8_sheet 61 = .ok (.if_icmp .ge 22, 3) := by decide +kernel
theorem dX8_sheet_64 : decode cX8_sheet 64 = .ok (.aload_n 0, 1) := by decide +kernel
theorem dX8_sheet_65 : decode cX8_sheet 65 = .ok (.getfield 16, 3) := by decide +kernel
theorem dX8_sheet_68 : decode cX8_sheet 68 = .ok (.bipush 60, 2) := by decide +kernel
theorem dX8_sheet_70 : decode cX8_sheet 70 = .ok (.iload_n 1, 1) := by decide +kernel
theorem dX8_sheet_71 : decode cX8_sheet 71 = .ok (.imul, 1) := by decide +kernel
theorem dX8_sheet_72 : decode cX8_sheet 72 = .ok (.iload 4, 2) := by decide +kernel
theorem dX8_sheet_74 : decode cX8_sheet 74 = .ok (.iadd, 1) := by decide +kernel
theorem dX8_sheet_75 : decode cX8_sheet 75 = .ok (.iconst 0, 1) := by decide +kernel
theorem dX8_sheet_76 : decode cX8_sheet 76 = .ok (.iastore, 1) := by decide +kernel
theorem dX8_sheet_77 : decode cX8_sheet 77 = .ok (.iinc 4 1, 3) := by decide +kernel
theorem dX8_sheet_80 : decode cX8_sheet 80 = .ok (.goto (-23), 3) := by decide +kernel
theorem dX8_sheet_83 : decode cX8_sheet 83 = .ok (.iconst 1, 1) := by decide +kernel
theorem dX8_sheet_84 : decode cX8_sheet 84 = .ok (.ireturn, 1) := by decide +kernel
set_option maxRecDepth 20000 in
theorem ggX8_lose_X8_isSheet : GoodIn wsX8_lose wsX8_isSheet := goodIn_r _ [5, 6, 7, 4, 8] (by decide +kernel) (by decide +kernel)
set_option maxRecDepth 20000 in
theorem gX8_lose_X8_isSheet : GoodIn wsX8_lose (va_wsS RX8 70 yX8_isSheet wsX8_isSheet) := goodIn_app (goodIn_of _ (by decide +kernel)) ggX8_lose_X8_isSheet
theorem dX8_lose_0 : decode cX8_lose 0 = .ok (.iload_n 1, 1) := by decide +kernel
theorem dX8_lose_1 : decode cX8_lose 1 = .ok (.invokestatic 70, 3) := by decide +kernel
theorem dX8_lose_4 : decode cX8_lose 4 = .ok (.ifCond .ne 5, 3) := by decide +kernel
theorem dX8_lose_7 : decode cX8_lose 7 = .ok (.iconst (-1), 1) := by decide +kernel
theorem dX8_lose_8 : decode cX8_lose 8 = .ok (.ireturn, 1) := by decide +kernel
theorem dX8_lose_9 : decode cX8_lose 9 = .ok (.aload_n 0, 1) := by decide +kernel
theorem dX8_lose_10 : decode cX8_lose 10 = .ok (.getfield 9, 3) := by decide +kernel
theorem dX8_lose_13 : decode cX8_lose 13 = .ok (.iload_n 1, 1) := by decide +kernel
theorem dX8_lose_14 : decode cX8_lose 14 = .ok (.iaload, 1) := by decide +kernel
theorem dX8_lose_15 : decode cX8_lose 15 = .ok (.bipush (-9), 2) := by decide +kernel
theorem dX8_lose_17 : decode cX8_lose 17 = .ok (.if_icmp .ne 7, 3) := by decide +kernel
theorem dX8_lose_20 : decode cX8_lose 20 = .ok (.iconst 0, 1) := by decide +kernel
theorem dX8_lose_21 : decode cX8_lose 21 = .ok (.goto 4, 3) := by decide +kernel
theorem dX8_lose_24 : decode cX8_lose 24 = .ok (.iconst 1, 1) := by decide +kernel
theorem dX8_lose_25 : decode cX8_lose 25 = .ok (.istore_n 2, 1) := by decide +kernel
theorem dX8_lose_26 : decode cX8_lose 26 = .ok (.aload_n 0, 1) := by decide +kernel
theorem dX8_lose_27 : decode cX8_lose 27 = .ok (.getfield 9, 3) := by decide +kernel
theorem dX8_lose_30 : decode cX8_lose 30 = .ok (.iload_n 1, 1) := by decide +kernel
theorem dX8_lose_31 : decode cX8_lose 31 = .ok (.bipush (-9), 2) := by decide +kernel
theorem dX8_lose_33 : decode cX8_lose 33 = .ok (.iastore, 1) := by decide +kernel
theorem dX8_lose_34 : decode cX8_lose 34 = .ok (.iload_n 2, 1) := by decide +kernel
theorem dX8_lose_35 : decode cX8_lose 35 = .ok (.ireturn, 1) := by decide +kernel
set_option maxRecDepth 20000 in
theorem ggX8_put_X8_isSheet : GoodIn wsX8_put wsX8_isSheet := goodIn_r _ [8, 9, 10, 7, 11] (by decide +kernel) (by decide +kernel)
set_option maxRecDepth 20000 in
theorem gX8_put_X8_isSheet : GoodIn wsX8_put (va_wsS RX8 70 yX8_isSheet wsX8_isSheet) := goodIn_app (goodIn_of _ (by decide +kernel)) ggX8_put_X8_isSheet
set_option maxRecDepth 20000 in
theorem ggX8_put_X8_fails : GoodIn wsX8_put wsX8_fails := goodIn_r _ [15, 1, 16, 17, 18, 19, 20, 21, 22, 23, 24, 25, 26, 27, 28, 29, 30, 31, 32, 33, 34, 35, 36] (by decide +kernel) (by decide +kernel)
set_option maxRecDepth 20000 in
theorem gX8_put_X8_fails : GoodIn wsX8_put (wsV RX8 80 RX8 yX8_fails wsX8_fails) := goodIn_app (goodIn_of _ (by decide +kernel)) ggX8_put_X8_fails
set_option maxRecDepth 20000 in
theorem ggX8_put_X8_within : GoodIn wsX8_put wsX8_within := goodIn_r _ [11] (by decide +kernel) (by decide +kernel)
set_option maxRecDepth 20000 in
theorem gX8_put_X8_within : GoodIn wsX8_put (va_wsS RX8 56 yX8_within wsX8_within) := goodIn_app (goodIn_of _ (by decide +kernel)) ggX8_put_X8_within
theorem dX8_put_0 : decode cX8_put 0 = .ok (.aload_n 0, 1) := by decide +kernel
theorem dX8_put_1 : decode cX8_put 1 = .ok (.iconst 0, 1) := by decide +kernel
theorem dX8_put_2 : decode cX8_put 2 = .ok (.putfield 50, 3) := by decide +kernel
theorem dX8_put_5 : decode cX8_put 5 = .ok (.iload_n 1, 1) := by decide +kernel
theorem dX8_put_6 : decode cX8_put 6 = .ok (.invokestatic 70, 3) := by decide +kernel
theorem dX8_put_9 : decode cX8_put 9 = .ok (.ifCond .ne 5, 3) := by decide +kernel
theorem dX8_put_12 : decode cX8_put 12 = .ok (.iconst (-1), 1) := by decide +kernel
theorem dX8_put_13 : decode cX8_put 13 = .ok (.ireturn, 1) := by decide +kernel
theorem dX8_put_14 : decode cX8_put 14 = .ok (.aload_n 0, 1) := by decide +kernel
theorem dX8_put_15 : decode cX8_put 15 = .ok (.getfield 9, 3) := by decide +kernel
theorem dX8_put_18 : decode cX8_put 18 = .ok (.iload_n 1, 1) := by decide +kernel
theorem dX8_put_19 : decode cX8_put 19 = .ok (.iaload, 1) := by decide +kernel
theorem dX8_put_20 : decode cX8_put 20 = .ok (.bipush (-9), 2) := by decide +kernel
theorem dX8_put_22 : decode cX8_put 22 = .ok (.if_icmp .ne 9, 3) := by decide +kernel
theorem dX8_put_25 : decode cX8_put 25 = .ok (.aload_n 0, 1) := by decide +kernel
theorem dX8_put_26 : decode cX8_put 26 = .ok (.iconst 1, 1) := by decide +kernel
theorem dX8_put_27 : decode cX8_put 27 = .ok (.invokevirtual 80, 3) := by decide +kernel
theorem dX8_put_30 : decode cX8_put 30 = .ok (.ireturn, 1) := by decide +kernel
theorem dX8_put_31 : decode cX8_put 31 = .ok (.iload_n 2, 1) := by decide +kernel
theorem dX8_put_32 : decode cX8_put 32 = .ok (.iconst 0, 1) := by decide +kernel
theorem dX8_put_33 : decode cX8_put 33 = .ok (.aload_n 0, 1) := by decide +kernel
theorem dX8_put_34 : decode cX8_put 34 = .ok (.getfield 13, 3) := by decide +kernel
theorem dX8_put_37 : decode cX8_put 37 = .ok (.iload_n 1, 1) := by decide +kernel
theorem dX8_put_38 : decode cX8_put 38 = .ok (.iaload, 1) := by decide +kernel
theorem dX8_put_39 : decode cX8_put 39 = .ok (.iconst 1, 1) := by decide +kernel
theorem dX8_put_40 : decode cX8_put 40 = .ok (.isub, 1) := by decide +kernel
theorem dX8_put_41 : decode cX8_put 41 = .ok (.invokestatic 56, 3) := by decide +kernel
theorem dX8_put_44 : decode cX8_put 44 = .ok (.ifCond .ne 9, 3) := by decide +kernel
theorem dX8_put_47 : decode cX8_put 47 = .ok (.aload_n 0, 1) := by decide +kernel
theorem dX8_put_48 : decode cX8_put 48 = .ok (.iconst 3, 1) := by decide +kernel
theorem dX8_put_49 : decode cX8_put 49 = .ok (.invokevirtual 80, 3) := by decide +kernel
theorem dX8_put_52 : decode cX8_put 52 = .ok (.ireturn, 1) := by decide +kernel
theorem dX8_put_53 : decode cX8_put 53 = .ok (.aload_n 0, 1) := by decide +kernel
theorem dX8_put_54 : decode cX8_put 54 = .ok (.getfield 16, 3) := by decide +kernel
theorem dX8_put_57 : decode cX8_put 57 = .ok (.bipush 60, 2) := by decide +kernel
theorem dX8_put_59 : decode cX8_put 59 = .ok (.iload_n 1, 1) := by decide +kernel
theorem dX8_put_60 : decode cX8_put 60 = .ok (.imul, 1) := by decide +kernel
theorem dX8_put_61 : decode cX8_put 61 = .ok (.iload_n 2, 1) := by decide +kernel
theorem dX8_put_62 : decode cX8_put 62 = .ok (.iadd, 1) := by decide +kernel
theorem dX8_put_63 : decode cX8_put 63 = .ok (.aload_n 0, 1) := by decide +kernel
theorem dX8_put_64 : decode cX8_put 64 = .ok (.getfield 9, 3) := by decide +kernel
theorem dX8_put_67 : decode cX8_put 67 = .ok (.iload_n 1, 1) := by decide +kernel
theorem dX8_put_68 : decode cX8_put 68 = .ok (.iaload, 1) := by decide +kernel
theorem dX8_put_69 : decode cX8_put 69 = .ok (.ifCond .ne 8, 3) := by decide +kernel
theorem dX8_put_72 : decode cX8_put 72 = .ok (.iload_n 3, 1) := by decide +kernel
theorem dX8_put_73 : decode cX8_put 73 = .ok (.i2b, 1) := by decide +kernel
theorem dX8_put_74 : decode cX8_put 74 = .ok (.goto 19, 3) := by decide +kernel
theorem dX8_put_77 : decode cX8_put 77 = .ok (.aload_n 0, 1) := by decide +kernel
theorem dX8_put_78 : decode cX8_put 78 = .ok (.getfield 9, 3) := by decide +kernel
theorem dX8_put_81 : decode cX8_put 81 = .ok (.iload_n 1, 1) := by decide +kernel
theorem dX8_put_82 : decode cX8_put 82 = .ok (.iaload, 1) := by decide +kernel
theorem dX8_put_83 : decode cX8_put 83 = .ok (.iconst 1, 1) := by decide +kernel
theorem dX8_put_84 : decode cX8_put 84 = .ok (.if_icmp .ne 8, 3) := by decide +kernel
theorem dX8_put_87 : decode cX8_put 87 = .ok (.iload_n 3, 1) := by decide +kernel
theorem dX8_put_88 : decode cX8_put 88 = .ok (.i2s, 1) := by decide +kernel
theorem dX8_put_89 : decode cX8_put 89 = .ok (.goto 4, 3) := by decide +kernel
theorem dX8_put_92 : decode cX8_put 92 = .ok (.iload_n 3, 1) := by decide +kernel
theorem dX8_put_93 : decode cX8_put 93 = .ok (.iastore, 1) := by decide +kernel
theorem dX8_put_94 : decode cX8_put 94 = .ok (.iconst 1, 1) := by decide +kernel
theorem dX8_put_95 : decode cX8_put 95 = .ok (.ireturn, 1) := by decide +kernel
set_option maxRecDepth 20000 in
theorem ggX8_cell_X8_isSheet : GoodIn wsX8_cell wsX8_isSheet := goodIn_r _ [9, 10, 11, 8, 12] (by decide +kernel) (by decide +kernel)
set_option maxRecDepth 20000 in
theorem gX8_cell_X8_isSheet : GoodIn wsX8_cell (va_wsS RX8 70 yX8_isSheet wsX8_isSheet) := goodIn_app (goodIn_of _ (by decide +kernel)) ggX8_cell_X8_isSheet
set_option maxRecDepth 20000 in
theorem ggX8_cell_X8_isSort : GoodIn wsX8_cell wsX8_isSort := goodIn_r _ [15, 10, 11, 8, 12] (by decide +kernel) (by decide +kernel)
set_option maxRecDepth 20000 in
theorem gX8_cell_X8_isSort : GoodIn wsX8_cell (va_wsS RX8 73 yX8_isSort wsX8_isSort) := goodIn_app (goodIn_of _ (by decide +kernel)) ggX8_cell_X8_isSort
set_option maxRecDepth 20000 in
theorem ggX8_cell_X8_lost : GoodIn wsX8_cell wsX8_lost := goodIn_r _ [19, 1, 2, 20, 21, 22, 23, 24, 25, 26, 27, 28, 29, 30, 31, 32, 33, 34, 35, 36, 37, 38, 39, 40] (by decide +kernel) (by decide +kernel)
set_option maxRecDepth 20000 in
theorem gX8_cell_X8_lost : GoodIn wsX8_cell (wsV RX8 159 RX8 yX8_lost wsX8_lost) := goodIn_app (goodIn_of _ (by decide +kernel)) ggX8_cell_X8_lost
set_option maxRecDepth 20000 in
theorem ggX8_cell_X8_within : GoodIn wsX8_cell wsX8_within := goodIn_r _ [12] (by decide +kernel) (by decide +kernel)
set_option maxRecDepth 20000 in
theorem gX8_cell_X8_within : GoodIn wsX8_cell (va_wsS RX8 56 yX8_within wsX8_within) := goodIn_app (goodIn_of _ (by decide +kernel)) ggX8_cell_X8_within
theorem dX8_cell_0 : decode cX8_cell 0 = .ok (.aload_n 0, 1) := by decide +kernel
theorem dX8_cell_1 : decode cX8_cell 1 = .ok (.iconst 0, 1) := by decide +kernel
theorem dX8_cell_2 : decode cX8_cell 2 = .ok (.putfield 50, 3) := by decide +kernel
theorem dX8_cell_5 : decode cX8_cell 5 = .ok (.iload_n 1, 1) := by decide +kernel
theorem dX8_cell_6 : decode cX8_cell 6 = .ok (.invokestatic 70, 3) := by decide +kernel
theorem dX8_cell_9 : decode cX8_cell 9 = .ok (.ifCond .eq 10, 3) := by decide +kernel
theorem dX8_cell_12 : decode cX8_cell 12 = .ok (.iload_n 3, 1) := by decide +kernel
theorem dX8_cell_13 : decode cX8_cell 13 = .ok (.invokestatic 73, 3) := by decide +kernel
theorem dX8_cell_16 : decode cX8_cell 16 = .ok (.ifCond .ne 7, 3) := by decide +kernel
theorem dX8_cell_19 : decode cX8_cell 19 = .ok (.ldc2_w 54, 3) := by decide +kernel
theorem dX8_cell_22 : decode cX8_cell 22 = .ok (.lreturn, 1) := by decide +kernel
theorem dX8_cell_23 : decode cX8_cell 23 = .ok (.aload_n 0, 1) := by decide +kernel
theorem dX8_cell_24 : decode cX8_cell 24 = .ok (.getfield 9, 3) := by decide +kernel
theorem dX8_cell_27 : decode cX8_cell 27 = .ok (.iload_n 1, 1) := by decide +kernel
theorem dX8_cell_28 : decode cX8_cell 28 = .ok (.iaload, 1) := by decide +kernel
theorem dX8_cell_29 : decode cX8_cell 29 = .ok (.bipush (-9), 2) := by decide +kernel
theorem dX8_cell_31 : decode cX8_cell 31 = .ok (.if_icmp .eq 19, 3) := by decide +kernel
theorem dX8_cell_34 : decode cX8_cell 34 = .ok (.aload_n 0, 1) := by decide +kernel
theorem dX8_cell_35 : decode cX8_cell 35 = .ok (.getfield 9, 3) := by decide +kernel
theorem dX8_cell_38 : decode cX8_cell 38 = .ok (.iload_n 1, 1) := by decide +kernel
theorem dX8_cell_39 : decode cX8_cell 39 = .ok (.iaload, 1) := by decide +kernel
theorem dX8_cell_40 : decode cX8_cell 40 = .ok (.iload_n 3, 1) := by decide +kernel
theorem dX8_cell_41 : decode cX8_cell 41 = .ok (.if_icmp .eq 9, 3) := by decide +kernel
theorem dX8_cell_44 : decode cX8_cell 44 = .ok (.aload_n 0, 1) := by decide +kernel
theorem dX8_cell_45 : decode cX8_cell 45 = .ok (.iconst 2, 1) := by decide +kernel
theorem dX8_cell_46 : decode cX8_cell 46 = .ok (.invokevirtual 159, 3) := by decide +kernel
theorem dX8_cell_49 : decode cX8_cell 49 = .ok (.lreturn, 1) := by decide +kernel
theorem dX8_cell_50 : decode cX8_cell 50 = .ok (.aload_n 0, 1) := by decide +kernel
theorem dX8_cell_51 : decode cX8_cell 51 = .ok (.getfield 9, 3) := by decide +kernel
theorem dX8_cell_54 : decode cX8_cell 54 = .ok (.iload_n 1, 1) := by decide +kernel
theorem dX8_cell_55 : decode cX8_cell 55 = .ok (.iaload, 1) := by decide +kernel
theorem dX8_cell_56 : decode cX8_cell 56 = .ok (.bipush (-9), 2) := by decide +kernel
theorem dX8_cell_58 : decode cX8_cell 58 = .ok (.if_icmp .ne 9, 3) := by decide +kernel
theorem dX8_cell_61 : decode cX8_cell 61 = .ok (.aload_n 0, 1) := by decide +kernel
theorem dX8_cell_62 : decode cX8_cell 62 = .ok (.iconst 1, 1) := by decide +kernel
theorem dX8_cell_63 : decode cX8_cell 63 = .ok (.invokevirtual 159, 3) := by decide +kernel
theorem dX8_cell_66 : decode cX8_cell 66 = .ok (.lreturn, 1) := by decide +kernel
theorem dX8_cell_67 : decode cX8_cell 67 = .ok (.iload_n 2, 1) := by decide +kernel
theorem dX8_cell_68 : decode cX8_cell 68 = .ok (.iconst 0, 1) := by decide +kernel
theorem dX8_cell_69 : decode cX8_cell 69 = .ok (.aload_n 0, 1) := by decide +kernel
theorem dX8_cell_70 : decode cX8_cell 70 = .ok (.getfield 13, 3) := by decide +kernel
theorem dX8_cell_73 : decode cX8_cell 73 = .ok (.iload_n 1, 1) := by decide +kernel
theorem dX8_cell_74 : decode cX8_cell 74 = .ok (.iaload, 1) := by decide +kernel
theorem dX8_cell_75 : decode cX8_cell 75 = .ok (.iconst 1, 1) := by decide +kernel
theorem dX8_cell_76 : decode cX8_cell 76 = .ok (.isub, 1) := by decide +kernel
theorem dX8_cell_77 : decode cX8_cell 77 = .ok (.invokestatic 56, 3) := by decide +kernel
theorem dX8_cell_80 : decode cX8_cell 80 = .ok (.ifCond .ne 9, 3) := by decide +kernel
theorem dX8_cell_83 : decode cX8_cell 83 = .ok (.aload_n 0, 1) := by decide +kernel
theorem dX8_cell_84 : decode cX8_cell 84 = .ok (.iconst 3, 1) := by decide +kernel
theorem dX8_cell_85 : decode cX8_cell 85 = .ok (.invokevirtual 159, 3) := by decide +kernel
theorem dX8_cell_88 : decode cX8_cell 88 = .ok (.lreturn, 1) := by decide +kernel
theorem dX8_cell_89 : decode cX8_cell 89 = .ok (.aload_n 0, 1) := by decide +kernel
theorem dX8_cell_90 : decode cX8_cell 90 = .ok (.getfield 16, 3) := by decide +kernel
theorem dX8_cell_93 : decode cX8_cell 93 = .ok (.bipush 60, 2) := by decide +kernel
theorem dX8_cell_95 : decode cX8_cell 95 = .ok (.iload_n 1, 1) := by decide +kernel
theorem dX8_cell_96 : decode cX8_cell 96 = .ok (.imul, 1) := by decide +kernel
theorem dX8_cell_97 : decode cX8_cell 97 = .ok (.iload_n 2, 1) := by decide +kernel
theorem dX8_cell_98 : decode cX8_cell 98 = .ok (.iadd, 1) := by decide +kernel
theorem dX8_cell_99 : decode cX8_cell 99 = .ok (.iaload, 1) := by decide +kernel
theorem dX8_cell_100 : decode cX8_cell 100 = .ok (.i2l, 1) := by decide +kernel
theorem dX8_cell_101 : decode cX8_cell 101 = .ok (.lreturn, 1) := by decide +kernel
set_option maxRecDepth 20000 in
theorem ggX8_copy_X8_isSheet : GoodIn wsX8_copy wsX8_isSheet := goodIn_r _ [8, 9, 10, 7, 11] (by decide +kernel) (by decide +kernel)
set_option maxRecDepth 20000 in
theorem gX8_copy_X8_isSheet : GoodIn wsX8_copy (va_wsS RX8 70 yX8_isSheet wsX8_isSheet) := goodIn_app (goodIn_of _ (by decide +kernel)) ggX8_copy_X8_isSheet
set_option maxRecDepth 20000 in
theorem ggX8_copy_X8_fails : GoodIn wsX8_copy wsX8_fails := goodIn_r _ [15, 1, 16, 17, 18, 19, 20, 21, 22, 23, 24, 25, 26, 27, 28, 29, 30, 31, 32, 33, 34, 35, 36] (by decide +kernel) (by decide +kernel)
set_option maxRecDepth 20000 in
theorem gX8_copy_X8_fails : GoodIn wsX8_copy (wsV RX8 80 RX8 yX8_fails wsX8_fails) := goodIn_app (goodIn_of _ (by decide +kernel)) ggX8_copy_X8_fails
theorem dX8_copy_0 : decode cX8_copy 0 = .ok (.aload_n 0, 1) := by decide +kernel
theorem dX8_copy_1 : decode cX8_copy 1 = .ok (.iconst 0, 1) := by decide +kernel
theorem dX8_copy_2 : decode cX8_copy 2 = .ok (.putfield 50, 3) := by decide +kernel
theorem dX8_copy_5 : decode cX8_copy 5 = .ok (.iload_n 1, 1) := by decide +kernel
theorem dX8_copy_6 : decode cX8_copy 6 = .ok (.invokestatic 70, 3) := by decide +kernel
theorem dX8_copy_9 : decode cX8_copy 9 = .ok (.ifCond .eq 10, 3) := by decide +kernel
theorem dX8_copy_12 : decode cX8_copy 12 = .ok (.iload_n 3, 1) := by decide +kernel
theorem dX8_copy_13 : decode cX8_copy 13 = .ok (.invokestatic 70, 3) := by decide +kernel
theorem dX8_copy_16 : decode cX8_copy 16 = .ok (.ifCond .ne 5, 3) := by decide +kernel
theorem dX8_copy_19 : decode cX8_copy 19 = .ok (.iconst (-1), 1) := by decide +kernel
theorem dX8_copy_20 : decode cX8_copy 20 = .ok (.ireturn, 1) := by decide +kernel
theorem dX8_copy_21 : decode cX8_copy 21 = .ok (.aload_n 0, 1) := by decide +kernel
theorem dX8_copy_22 : decode cX8_copy 22 = .ok (.getfield 9, 3) := by decide +kernel
theorem dX8_copy_25 : decode cX8_copy 25 = .ok (.iload_n 1, 1) := by decide +kernel
theorem dX8_copy_26 : decode cX8_copy 26 = .ok (.iaload, 1) := by decide +kernel
theorem dX8_copy_27 : decode cX8_copy 27 = .ok (.bipush (-9), 2) := by decide +kernel
theorem dX8_copy_29 : decode cX8_copy 29 = .ok (.if_icmp .eq 14, 3) := by decide +kernel
theorem dX8_copy_32 : decode cX8_copy 32 = .ok (.aload_n 0, 1) := by decide +kernel
theorem dX8_copy_33 : decode cX8_copy 33 = .ok (.getfield 9, 3) := by decide +kernel
theorem dX8_copy_36 : decode cX8_copy 36 = .ok (.iload_n 3, 1) := by decide +kernel
theorem dX8_copy_37 : decode cX8_copy 37 = .ok (.iaload, 1) := by decide +kernel
theorem dX8_copy_38 : decode cX8_copy 38 = .ok (.bipush (-9), 2) := by decide +kernel
theorem dX8_copy_40 : decode cX8_copy 40 = .ok (.if_icmp .ne 9, 3) := by decide +kernel
theorem dX8_copy_43 : decode cX8_copy 43 = .ok (.aload_n 0, 1) := by decide +kernel
theorem dX8_copy_44 : decode cX8_copy 44 = .ok (.iconst 1, 1) := by decide +kernel
theorem dX8_copy_45 : decode cX8_copy 45 = .ok (.invokevirtual 80, 3) := by decide +kernel
theorem dX8_copy_48 : decode cX8_copy 48 = .ok (.ireturn, 1) := by decide +kernel
theorem dX8_copy_49 : decode cX8_copy 49 = .ok (.aload_n 0, 1) := by decide +kernel
theorem dX8_copy_50 : decode cX8_copy 50 = .ok (.getfield 9, 3) := by decide +kernel
theorem dX8_copy_53 : decode cX8_copy 53 = .ok (.iload_n 1, 1) := by decide +kernel
theorem dX8_copy_54 : decode cX8_copy 54 = .ok (.iaload, 1) := by decide +kernel
theorem dX8_copy_55 : decode cX8_copy 55 = .ok (.aload_n 0, 1) := by decide +kernel
theorem dX8_copy_56 : decode cX8_copy 56 = .ok (.getfield 9, 3) := by decide +kernel
theorem dX8_copy_59 : decode cX8_copy 59 = .ok (.iload_n 3, 1) := by decide +kernel
theorem dX8_copy_60 : decode cX8_copy 60 = .ok (.iaload, 1) := by decide +kernel
theorem dX8_copy_61 : decode cX8_copy 61 = .ok (.if_icmp .eq 9, 3) := by decide +kernel
theorem dX8_copy_64 : decode cX8_copy 64 = .ok (.aload_n 0, 1) := by decide +kernel
theorem dX8_copy_65 : decode cX8_copy 65 = .ok (.iconst 2, 1) := by decide +kernel
theorem dX8_copy_66 : decode cX8_copy 66 = .ok (.invokevirtual 80, 3) := by decide +kernel
theorem dX8_copy_69 : decode cX8_copy 69 = .ok (.ireturn, 1) := by decide +kernel
theorem dX8_copy_70 : decode cX8_copy 70 = .ok (.iload_n 2, 1) := by decide +kernel
theorem dX8_copy_71 : decode cX8_copy 71 = .ok (.ifCond .lt 38, 3) := by decide +kernel
theorem dX8_copy_74 : decode cX8_copy 74 = .ok (.iload 4, 2) := by decide +kernel
theorem dX8_copy_76 : decode cX8_copy 76 = .ok (.ifCond .lt 33, 3) := by decide +kernel
theorem dX8_copy_79 : decode cX8_copy 79 = .ok (.iload 5, 2) := by decide +kernel
theorem dX8_copy_81 : decode cX8_copy 81 = .ok (.ifCond .lt 28, 3) := by decide +kernel
theorem dX8_copy_84 : decode cX8_copy 84 = .ok (.iload_n 2, 1) := by decide +kernel
theorem dX8_copy_85 : decode cX8_copy 85 = .ok (.aload_n 0, 1) := by decide +kernel
theorem dX8_copy_86 : decode cX8_copy 86 = .ok (.getfield 13, 3) := by decide +kernel
theorem dX8_copy_89 : decode cX8_copy 89 = .ok (.iload_n 1, 1) := by decide +kernel
theorem dX8_copy_90 : decode cX8_copy 90 = .ok (.iaload, 1) := by decide +kernel
theorem dX8_copy_91 : decode cX8_copy 91 = .ok (.if_icmp .gt 18, 3) := by decide +kernel
theorem dX8_copy_94 : decode cX8_copy 94 = .ok (.iload 4, 2) := by decide +kernel
theorem dX8_copy_96 : decode cX8_copy 96 = .ok (.aload_n 0, 1) := by decide +kernel
theorem dX8_copy_97 : decode cX8_copy 97 = .ok (.getfield 13, 3) := by decide +kernel
theorem dX8_copy_100 : decode cX8_copy 100 = .ok (.iload_n 3, 1) := by decide +kernel
theorem dX8_copy_101 : decode cX8_copy 101 = .ok (.iaload, 1) := by decide +kernel
theorem dX8_copy_102 : decode cX8_copy 102 = .ok (.if_icmp .gt 7, 3) := by decide +kernel
theorem dX8_copy_105 : decode cX8_copy 105 = .ok (.iconst 1, 1) := by decide +kernel
theorem dX8_copy_106 : decode cX8_copy 106 = .ok (.goto 4, 3) := by decide +kernel
theorem dX8_copy_109 : decode cX8_copy 109 = .ok (.iconst 0, 1) := by decide +kernel
theorem dX8_copy_110 : decode cX8_copy 110 = .ok (.istore 6, 2) := by decide +kernel
theorem dX8_copy_112 : decode cX8_copy 112 = .ok (.iload 6, 2) := by decide +kernel
theorem dX8_copy_114 : decode cX8_copy 114 = .ok (.ifCond .eq 30, 3) := by decide +kernel
theorem dX8_copy_117 : decode cX8_copy 117 = .ok (.iload 5, 2) := by decide +kernel
theorem dX8_copy_119 : decode cX8_copy 119 = .ok (.aload_n 0, 1) := by decide +kernel
theorem dX8_copy_120 : decode cX8_copy 120 = .ok (.getfield 13, 3) := by decide +kernel
theorem dX8_copy_123 : decode cX8_copy 123 = .ok (.iload_n 1, 1) := by decide +kernel
theorem dX8_copy_124 : decode cX8_copy 124 = .ok (.iaload, 1) := by decide +kernel
theorem dX8_copy_125 : decode cX8_copy 125 = .ok (.iload_n 2, 1) := by decide +kernel
theorem dX8_copy_126 : decode cX8_copy 126 = .ok (.isub, 1) := by decide +kernel
theorem dX8_copy_127 : decode cX8_copy 127 = .ok (.if_icmp .gt 17, 3) := by decide +kernel
theorem dX8_copy_130 : decode cX8_copy 130 = .ok (.iload 5, 2) := by decide +kernel
theorem dX8_copy_132 : decode cX8_copy 132 = .ok (.aload_n 0, 1) := by decide +kernel
theorem dX8_copy_133 : decode cX8_copy 133 = .ok (.getfield 13, 3) := by decide +kernel
theorem dX8_copy_136 : decode cX8_copy 136 = .ok (.iload_n 3, 1) := by decide +kernel
theorem dX8_copy_137 : decode cX8_copy 137 = .ok (.iaload, 1) := by decide +kernel
theorem dX8_copy_138 : decode cX8_copy 138 = .ok (.iload 4, 2) := by decide +kernel
theorem dX8_copy_140 : decode cX8_copy 140 = .ok (.isub, 1) := by decide +kernel
theorem dX8_copy_141 : decode cX8_copy 141 = .ok (.if_icmp .le 9, 3) := by decide +kernel
theorem dX8_copy_144 : decode cX8_copy 144 = .ok (.aload_n 0, 1) := by decide +kernel
theorem dX8_copy_145 : decode cX8_copy 145 = .ok (.iconst 3, 1) := by decide +kernel
theorem dX8_copy_146 : decode cX8_copy 146 = .ok (.invokevirtual 80, 3) := by decide +kernel
theorem dX8_copy_149 : decode cX8_copy 149 = .ok (.ireturn, 1) := by decide +kernel
theorem dX8_copy_150 : decode cX8_copy 150 = .ok (.iload_n 2, 1) := by decide +kernel
theorem dX8_copy_151 : decode cX8_copy 151 = .ok (.iload 4, 2) := by decide +kernel
theorem dX8_copy_153 : decode cX8_copy 153 = .ok (.if_icmp .ge 7, 3) := by decide +kernel
theorem dX8_copy_156 : decode cX8_copy 156 = .ok (.iconst 1, 1) := by decide +kernel
theorem dX8_copy_157 : decode cX8_copy 157 = .ok (.goto 4, 3) := by decide +kernel
theorem dX8_copy_160 : decode cX8_copy 160 = .ok (.iconst 0, 1) := by decide +kernel
theorem dX8_copy_161 : decode cX8_copy 161 = .ok (.istore 7, 2) := by decide +kernel
theorem dX8_copy_163 : decode cX8_copy 163 = .ok (.iconst 0, 1) := by decide +kernel
theorem dX8_copy_164 : decode cX8_copy 164 = .ok (.istore 8, 2) := by decide +kernel
theorem dX8_copy_166 : decode cX8_copy 166 = .ok (.iload 8, 2) := by decide +kernel
theorem dX8_copy_168 : decode cX8_copy 168 = .ok (.iload 5, 2) := by decide +kernel
theorem dX8_copy_170 : decode cX8_copy 170 = .ok (.if_icmp .ge 57, 3) := by decide +kernel
theorem dX8_copy_173 : decode cX8_copy 173 = .ok (.iload 7, 2) := by decide +kernel
theorem dX8_copy_175 : decode cX8_copy 175 = .ok (.ifCond .eq 13, 3) := by decide +kernel
theorem dX8_copy_178 : decode cX8_copy 178 = .ok (.iload 5, 2) := by decide +kernel
theorem dX8_copy_180 : decode cX8_copy 180 = .ok (.iconst 1, 1) := by decide +kernel
theorem dX8_copy_181 : decode cX8_copy 181 = .ok (.isub, 1) := by decide +kernel
theorem dX8_copy_182 : decode cX8_copy 182 = .ok (.iload 8, 2) := by decide +kernel
theorem dX8_copy_184 : decode cX8_copy 184 = .ok (.isub, 1) := by decide +kernel
theorem dX8_copy_185 : decode cX8_copy 185 = .ok (.goto 5, 3) := by decide +kernel
theorem dX8_copy_188 : decode cX8_copy 188 = .ok (.iload 8, 2) := by decide +kernel
theorem dX8_copy_190 : decode cX8_copy 190 = .ok (.istore 9, 2) := by decide +kernel
theorem dX8_copy_192 : decode cX8_copy 192 = .ok (.aload_n 0, 1) := by decide +kernel
theorem dX8_copy_193 : decode cX8_copy 193 = .ok (.getfield 16, 3) := by decide +kernel
theorem dX8_copy_196 : decode cX8_copy 196 = .ok (.bipush 60, 2) := by decide +kernel
theorem dX8_copy_198 : decode cX8_copy 198 = .ok (.iload_n 3, 1) := by decide +kernel
theorem dX8_copy_199 : decode cX8_copy 199 = .ok (.imul, 1) := by decide +kernel
theorem dX8_copy_200 : decode cX8_copy 200 = .ok (.iload 4, 2) := by decide +kernel
theorem dX8_copy_202 : decode cX8_copy 202 = .ok (.iadd, 1) := by decide +kernel
theorem dX8_copy_203 : decode cX8_copy 203 = .ok (.iload 9, 2) := by decide +kernel
theorem dX8_copy_205 : decode cX8_copy 205 = .ok (.iadd, 1) := by decide +kernel
theorem dX8_copy_206 : decode cX8_copy 206 = .ok (.aload_n 0, 1) := by decide +kernel
theorem dX8_copy_207 : decode cX8_copy 207 = .ok (.getfield 16, 3) := by decide +kernel
theorem dX8_copy_210 : decode cX8_copy 210 = .ok (.bipush 60, 2) := by decide +kernel
theorem dX8_copy_212 : decode cX8_copy 212 = .ok (.iload_n 1, 1) := by decide +kernel
theorem dX8_copy_213 : decode cX8_copy 213 = .ok (.imul, 1) := by decide +kernel
theorem dX8_copy_214 : decode cX8_copy 214 = .ok (.iload_n 2, 1) := by decide +kernel
theorem dX8_copy_215 : decode cX8_copy 215 = .ok (.iadd, 1) := by decide +kernel
theorem dX8_copy_216 : decode cX8_copy 216 = .ok (.iload 9, 2) := by decide +kernel
theorem dX8_copy_218 : decode cX8_copy 218 = .ok (.iadd, 1) := by decide +kernel
theorem dX8_copy_219 : decode cX8_copy 219 = .ok (.iaload, 1) := by decide +kernel
theorem dX8_copy_220 : decode cX8_copy 220 = .ok (.iastore, 1) := by decide +kernel
theorem dX8_copy_221 : decode cX8_copy 221 = .ok (.iinc 8 1, 3) := by decide +kernel
theorem dX8_copy_224 : decode cX8_copy 224 = .ok (.goto (-58), 3) := by decide +kernel
theorem dX8_copy_227 : decode cX8_copy 227 = .ok (.iload 5, 2) := by decide +kernel
theorem dX8_copy_229 : decode cX8_copy 229 = .ok (.ireturn, 1) := by decide +kernel
theorem dX8_begins_0 : decode cX8_begins 0 = .ok (.aload_n 0, 1) := by decide +kernel
theorem dX8_begins_1 : decode cX8_begins 1 = .ok (.bipush 31, 2) := by decide +kernel
theorem dX8_begins_3 : decode cX8_begins 3 = .ok (.aload_n 0, 1) := by decide +kernel
theorem dX8_begins_4 : decode cX8_begins 4 = .ok (.getfield 163, 3) := by decide +kernel
theorem dX8_begins_7 : decode cX8_begins 7 = .ok (.imul, 1) := by decide +kernel
theorem dX8_begins_8 : decode cX8_begins 8 = .ok (.iload_n 1, 1) := by decide +kernel
theorem dX8_begins_9 : decode cX8_begins 9 = .ok (.iadd, 1) := by decide +kernel
theorem dX8_begins_10 : decode cX8_begins 10 = .ok (.putfield 163, 3) := by decide +kernel
theorem dX8_begins_13 : decode cX8_begins 13 = .ok (.return_, 1) := by decide +kernel
set_option maxRecDepth 20000 in
theorem ggX8_tell_X8_isPerson : GoodIn wsX8_tell wsX8_isPerson := goodIn_r _ [6, 7, 21, 22, 23, 24, 25, 26, 27, 28, 29, 30, 31, 32, 33, 34, 35, 36, 37, 38, 39, 40, 41] (by decide +kernel) (by decide +kernel)
set_option maxRecDepth 20000 in
theorem gX8_tell_X8_isPerson : GoodIn wsX8_tell (wsV RX8 63 RX8 yX8_isPerson wsX8_isPerson) := goodIn_app (goodIn_of _ (by decide +kernel)) ggX8_tell_X8_isPerson
set_option maxRecDepth 20000 in
theorem ggX8_tell_X8_owesAll : GoodIn wsX8_tell wsX8_owesAll := goodIn_r _ [11, 7, 12, 13, 14, 5, 15, 21, 22, 23, 24, 25, 26, 27, 28, 29, 30, 31, 32, 33, 34, 35, 36, 37, 38, 39, 40, 41] (by decide +kernel) (by decide +kernel)
set_option maxRecDepth 20000 in
theorem gX8_tell_X8_owesAll : GoodIn wsX8_tell (wsV RX8 126 RX8 yX8_owesAll wsX8_owesAll) := goodIn_app (goodIn_of _ (by decide +kernel)) ggX8_tell_X8_owesAll
set_option maxRecDepth 20000 in
theorem ggX8_tell_X8_begins : GoodIn wsX8_tell wsX8_begins := goodIn_r _ [19, 20, 21, 22, 23, 24, 25, 26, 27, 28, 29, 30, 31, 32, 33, 34, 35, 36, 37, 38, 39, 40, 41] (by decide +kernel) (by decide +kernel)
set_option maxRecDepth 20000 in
theorem gX8_tell_X8_begins : GoodIn wsX8_tell (wsV RX8 166 RX8 yX8_begins wsX8_begins) := goodIn_app (goodIn_of _ (by decide +kernel)) ggX8_tell_X8_begins
theorem dX8_tell_0 : decode cX8_tell 0 = .ok (.aload_n 0, 1) := by decide +kernel
theorem dX8_tell_1 : decode cX8_tell 1 = .ok (.iload_n 1, 1) := by decide +kernel
theorem dX8_tell_2 : decode cX8_tell 2 = .ok (.invokevirtual 63, 3) := by decide +kernel
theorem dX8_tell_5 : decode cX8_tell 5 = .ok (.ifCond .ne 5, 3) := by decide +kernel
theorem dX8_tell_8 : decode cX8_tell 8 = .ok (.iconst (-1), 1) := by decide +kernel
theorem dX8_tell_9 : decode cX8_tell 9 = .ok (.ireturn, 1) := by decide +kernel
theorem dX8_tell_10 : decode cX8_tell 10 = .ok (.aload_n 0, 1) := by decide +kernel
theorem dX8_tell_11 : decode cX8_tell 11 = .ok (.iload_n 1, 1) := by decide +kernel
theorem dX8_tell_12 : decode cX8_tell 12 = .ok (.invokevirtual 126, 3) := by decide +kernel
theorem dX8_tell_15 : decode cX8_tell 15 = .ok (.istore_n 2, 1) := by decide +kernel
theorem dX8_tell_16 : decode cX8_tell 16 = .ok (.aload_n 0, 1) := by decide +kernel
theorem dX8_tell_17 : decode cX8_tell 17 = .ok (.getfield 19, 3) := by decide +kernel
theorem dX8_tell_20 : decode cX8_tell 20 = .ok (.iload_n 1, 1) := by decide +kernel
theorem dX8_tell_21 : decode cX8_tell 21 = .ok (.iaload, 1) := by decide +kernel
theorem dX8_tell_22 : decode cX8_tell 22 = .ok (.lookupswitch 68 #[(1, 26), (2, 41)], 26) := by decide +kernel
theorem dX8_tell_48 : decode cX8_tell 48 = .ok (.aload_n 0, 1) := by decide +kernel
theorem dX8_tell_49 : decode cX8_tell 49 = .ok (.iconst 2, 1) := by decide +kernel
theorem dX8_tell_50 : decode cX8_tell 50 = .ok (.invokevirtual 166, 3) := by decide +kernel
theorem dX8_tell_53 : decode cX8_tell 53 = .ok (.aload_n 0, 1) := by decide +kernel
theorem dX8_tell_54 : decode cX8_tell 54 = .ok (.iconst 1, 1) := by decide +kernel
theorem dX8_tell_55 : decode cX8_tell 55 = .ok (.invokevirtual 166, 3) := by decide +kernel
theorem dX8_tell_58 : decode cX8_tell 58 = .ok (.iload_n 2, 1) := by decide +kernel
theorem dX8_tell_59 : decode cX8_tell 59 = .ok (.bipush 100, 2) := by decide +kernel
theorem dX8_tell_61 : decode cX8_tell 61 = .ok (.iadd, 1) := by decide +kernel
theorem dX8_tell_62 : decode cX8_tell 62 = .ok (.ireturn, 1) := by decide +kernel
theorem dX8_tell_63 : decode cX8_tell 63 = .ok (.aload_n 0, 1) := by decide +kernel
theorem dX8_tell_64 : decode cX8_tell 64 = .ok (.iconst 3, 1) := by decide +kernel
theorem dX8_tell_65 : decode cX8_tell 65 = .ok (.invokevirtual 166, 3) := by decide +kernel
theorem dX8_tell_68 : decode cX8_tell 68 = .ok (.aload_n 0, 1) := by decide +kernel
theorem dX8_tell_69 : decode cX8_tell 69 = .ok (.iconst 2, 1) := by decide +kernel
theorem dX8_tell_70 : decode cX8_tell 70 = .ok (.invokevirtual 166, 3) := by decide +kernel
theorem dX8_tell_73 : decode cX8_tell 73 = .ok (.aload_n 0, 1) := by decide +kernel
theorem dX8_tell_74 : decode cX8_tell 74 = .ok (.iconst 1, 1) := by decide +kernel
theorem dX8_tell_75 : decode cX8_tell 75 = .ok (.invokevirtual 166, 3) := by decide +kernel
theorem dX8_tell_78 : decode cX8_tell 78 = .ok (.aload_n 0, 1) := by decide +kernel
theorem dX8_tell_79 : decode cX8_tell 79 = .ok (.iconst 1, 1) := by decide +kernel
theorem dX8_tell_80 : decode cX8_tell 80 = .ok (.invokevirtual 166, 3) := by decide +kernel
theorem dX8_tell_83 : decode cX8_tell 83 = .ok (.iconst 2, 1) := by decide +kernel
theorem dX8_tell_84 : decode cX8_tell 84 = .ok (.iload_n 2, 1) := by decide +kernel
theorem dX8_tell_85 : decode cX8_tell 85 = .ok (.imul, 1) := by decide +kernel
theorem dX8_tell_86 : decode cX8_tell 86 = .ok (.bipush 100, 2) := by decide +kernel
theorem dX8_tell_88 : decode cX8_tell 88 = .ok (.iadd, 1) := by decide +kernel
theorem dX8_tell_89 : decode cX8_tell 89 = .ok (.ireturn, 1) := by decide +kernel
theorem dX8_tell_90 : decode cX8_tell 90 = .ok (.aload_n 0, 1) := by decide +kernel
theorem dX8_tell_91 : decode cX8_tell 91 = .ok (.iconst 1, 1) := by decide +kernel
theorem dX8_tell_92 : decode cX8_tell 92 = .ok (.invokevirtual 166, 3) := by decide +kernel
theorem dX8_tell_95 : decode cX8_tell 95 = .ok (.iload_n 2, 1) := by decide +kernel
theorem dX8_tell_96 : decode cX8_tell 96 = .ok (.ireturn, 1) := by decide +kernel
set_option maxRecDepth 20000 in
theorem ggX8_hail_X8_isPerson : GoodIn wsX8_hail wsX8_isPerson := goodIn_r _ [6, 7, 13, 14, 15, 16, 17, 18, 19, 20, 21, 22, 23, 24, 25, 26, 27, 28, 29, 30, 31, 32, 33] (by decide +kernel) (by decide +kernel)
set_option maxRecDepth 20000 in
theorem gX8_hail_X8_isPerson : GoodIn wsX8_hail (wsV RX8 63 RX8 yX8_isPerson wsX8_isPerson) := goodIn_app (goodIn_of _ (by decide +kernel)) ggX8_hail_X8_isPerson
set_option maxRecDepth 20000 in
theorem ggX8_hail_X8_begins : GoodIn wsX8_hail wsX8_begins := goodIn_r _ [11, 12, 13, 14, 15, 16, 17, 18, 19, 20, 21, 22, 23, 24, 25, 26, 27, 28, 29, 30, 31, 32, 33] (by decide +kernel) (by decide +kernel)
set_option maxRecDepth 20000 in
theorem gX8_hail_X8_begins : GoodIn wsX8_hail (wsV RX8 166 RX8 yX8_begins wsX8_begins) := goodIn_app (goodIn_of _ (by decide +kernel)) ggX8_hail_X8_begins
theorem dX8_hail_0 : decode cX8_hail 0 = .ok (.aload_n 0, 1) := by decide +kernel
theorem dX8_hail_1 : decode cX8_hail 1 = .ok (.iload_n 1, 1) := by decide +kernel
theorem dX8_hail_2 : decode cX8_hail 2 = .ok (.invokevirtual 63, 3) := by decide +kernel
theorem dX8_hail_5 : decode cX8_hail 5 = .ok (.ifCond .ne 5, 3) := by decide +kernel
theorem dX8_hail_8 : decode cX8_hail 8 = .ok (.iconst (-1), 1) := by decide +kernel
theorem dX8_hail_9 : decode cX8_hail 9 = .ok (.ireturn, 1) := by decide +kernel
theorem dX8_hail_10 : decode cX8_hail 10 = .ok (.aload_n 0, 1) := by decide +kernel
theorem dX8_hail_11 : decode cX8_hail 11 = .ok (.aload_n 0, 1) := by decide +kernel
theorem dX8_hail_12 : decode cX8_hail 12 = .ok (.getfield 19, 3) := by decide +kernel
theorem dX8_hail_15 : decode cX8_hail 15 = .ok (.iload_n 1, 1) := by decide +kernel
theorem dX8_hail_16 : decode cX8_hail 16 = .ok (.iaload, 1) := by decide +kernel
theorem dX8_hail_17 : decode cX8_hail 17 = .ok (.iconst 2, 1) := by decide +kernel
theorem dX8_hail_18 : decode cX8_hail 18 = .ok (.if_icmp .ne 7, 3) := by decide +kernel
theorem dX8_hail_21 : decode cX8_hail 21 = .ok (.iconst 5, 1) := by decide +kernel
theorem dX8_hail_22 : decode cX8_hail 22 = .ok (.goto 4, 3) := by decide +kernel
theorem dX8_hail_25 : decode cX8_hail 25 = .ok (.iconst 4, 1) := by decide +kernel
theorem dX8_hail_26 : decode cX8_hail 26 = .ok (.invokevirtual 166, 3) := by decide +kernel
theorem dX8_hail_29 : decode cX8_hail 29 = .ok (.aload_n 0, 1) := by decide +kernel
theorem dX8_hail_30 : decode cX8_hail 30 = .ok (.getfield 19, 3) := by decide +kernel
theorem dX8_hail_33 : decode cX8_hail 33 = .ok (.iload_n 1, 1) := by decide +kernel
theorem dX8_hail_34 : decode cX8_hail 34 = .ok (.iaload, 1) := by decide +kernel
theorem dX8_hail_35 : decode cX8_hail 35 = .ok (.iconst 2, 1) := by decide +kernel
theorem dX8_hail_36 : decode cX8_hail 36 = .ok (.if_icmp .ne 8, 3) := by decide +kernel
theorem dX8_hail_39 : decode cX8_hail 39 = .ok (.bipush 50, 2) := by decide +kernel
theorem dX8_hail_41 : decode cX8_hail 41 = .ok (.goto 4, 3) := by decide +kernel
theorem dX8_hail_44 : decode cX8_hail 44 = .ok (.iload_n 1, 1) := by decide +kernel
theorem dX8_hail_45 : decode cX8_hail 45 = .ok (.ireturn, 1) := by decide +kernel
set_option maxRecDepth 20000 in
theorem ggX8_as_X8_isPerson : GoodIn wsX8_as wsX8_isPerson := goodIn_r _ [7, 8, 16, 17, 18, 19, 20, 21, 22, 23, 24, 25, 26, 27, 28, 29, 30, 31, 32, 33, 34, 35, 36] (by decide +kernel) (by decide +kernel)
set_option maxRecDepth 20000 in
theorem gX8_as_X8_isPerson : GoodIn wsX8_as (wsV RX8 63 RX8 yX8_isPerson wsX8_isPerson) := goodIn_app (goodIn_of _ (by decide +kernel)) ggX8_as_X8_isPerson
set_option maxRecDepth 20000 in
theorem ggX8_as_X8_within : GoodIn wsX8_as wsX8_within := goodIn_r _ [11] (by decide +kernel) (by decide +kernel)
set_option maxRecDepth 20000 in
theorem gX8_as_X8_within : GoodIn wsX8_as (va_wsS RX8 56 yX8_within wsX8_within) := goodIn_app (goodIn_of _ (by decide +kernel)) ggX8_as_X8_within
set_option maxRecDepth 20000 in
theorem ggX8_as_X8_fails : GoodIn wsX8_as wsX8_fails := goodIn_r _ [15, 1, 16, 17, 18, 19, 20, 21, 22, 23, 24, 25, 26, 27, 28, 29, 30, 31, 32, 33, 34, 35, 36] (by decide +kernel) (by decide +kernel)
set_option maxRecDepth 20000 in
theorem gX8_as_X8_fails : GoodIn wsX8_as (wsV RX8 80 RX8 yX8_fails wsX8_fails) := goodIn_app (goodIn_of _ (by decide +kernel)) ggX8_as_X8_fails
theorem dX8_as_0 : decode cX8_as 0 = .ok (.aload_n 0, 1) := by decide +kernel
theorem dX8_as_1 : decode cX8_as 1 = .ok (.iconst 0, 1) := by decide +kernel
theorem dX8_as_2 : decode cX8_as 2 = .ok (.putfield 50, 3) := by decide +kernel
theorem dX8_as_5 : decode cX8_as 5 = .ok (.aload_n 0, 1) := by decide +kernel
theorem dX8_as_6 : decode cX8_as 6 = .ok (.iload_n 1, 1) := by decide +kernel
theorem dX8_as_7 : decode cX8_as 7 = .ok (.invokevirtual 63, 3) := by decide +kernel
theorem dX8_as_10 : decode cX8_as 10 = .ok (.ifCond .ne 5, 3) := by decide +kernel
theorem dX8_as_13 : decode cX8_as 13 = .ok (.iconst (-1), 1) := by decide +kernel
theorem dX8_as_14 : decode cX8_as 14 = .ok (.ireturn, 1) := by decide +kernel
theorem dX8_as_15 : decode cX8_as 15 = .ok (.iload_n 2, 1) := by decide +kernel
theorem dX8_as_16 : decode cX8_as 16 = .ok (.iconst 0, 1) := by decide +kernel
theorem dX8_as_17 : decode cX8_as 17 = .ok (.iconst 2, 1) := by decide +kernel
theorem dX8_as_18 : decode cX8_as 18 = .ok (.invokestatic 56, 3) := by decide +kernel
theorem dX8_as_21 : decode cX8_as 21 = .ok (.ifCond .ne 6, 3) := by decide +kernel
theorem dX8_as_24 : decode cX8_as 24 = .ok (.bipush (-2), 2) := by decide +kernel
theorem dX8_as_26 : decode cX8_as 26 = .ok (.ireturn, 1) := by decide +kernel
theorem dX8_as_27 : decode cX8_as 27 = .ok (.aload_n 0, 1) := by decide +kernel
theorem dX8_as_28 : decode cX8_as 28 = .ok (.getfield 19, 3) := by decide +kernel
theorem dX8_as_31 : decode cX8_as 31 = .ok (.iload_n 1, 1) := by decide +kernel
theorem dX8_as_32 : decode cX8_as 32 = .ok (.iaload, 1) := by decide +kernel
theorem dX8_as_33 : decode cX8_as 33 = .ok (.iload_n 2, 1) := by decide +kernel
theorem dX8_as_34 : decode cX8_as 34 = .ok (.if_icmp .lt 7, 3) := by decide +kernel
theorem dX8_as_37 : decode cX8_as 37 = .ok (.iconst 1, 1) := by decide +kernel
theorem dX8_as_38 : decode cX8_as 38 = .ok (.goto 8, 3) := by decide +kernel
theorem dX8_as_41 : decode cX8_as 41 = .ok (.aload_n 0, 1) := by decide +kernel
theorem dX8_as_42 : decode cX8_as 42 = .ok (.iconst 2, 1) := by decide +kernel
theorem dX8_as_43 : decode cX8_as 43 = .ok (.invokevirtual 80, 3) := by decide +kernel
theorem dX8_as_46 : decode cX8_as 46 = .ok (.ireturn, 1) := by decide +kernel
theorem dX8_trace_0 : decode cX8_trace 0 = .ok (.aload_n 0, 1) := by decide +kernel
theorem dX8_trace_1 : decode cX8_trace 1 = .ok (.getfield 163, 3) := by decide +kernel
theorem dX8_trace_4 : decode cX8_trace 4 = .ok (.ireturn, 1) := by decide +kernel
theorem dX8_fault_0 : decode cX8_fault 0 = .ok (.aload_n 0, 1) := by decide +kernel
theorem dX8_fault_1 : decode cX8_fault 1 = .ok (.getfield 50, 3) := by decide +kernel
theorem dX8_fault_4 : decode cX8_fault 4 = .ok (.ireturn, 1) := by decide +kernel
set_option maxRecDepth 20000 in
theorem ggX8_litNow_X8_lighterOf : GoodIn wsX8_litNow wsX8_lighterOf := goodIn_r _ [6, 1, 7, 8, 9, 5, 10, 11, 12, 13, 14, 15, 16, 17, 18, 19, 20, 21, 22, 23, 24, 25, 26, 27, 28, 29, 30, 31, 32, 33, 34, 35, 36] (by decide +kernel) (by decide +kernel)
set_option maxRecDepth 20000 in
theorem gX8_litNow_X8_lighterOf : GoodIn wsX8_litNow (wsV RX8 117 RX8 yX8_lighterOf wsX8_lighterOf) := goodIn_app (goodIn_of _ (by decide +kernel)) ggX8_litNow_X8_lighterOf
theorem dX8_litNow_0 : decode cX8_litNow 0 = .ok (.iconst 0, 1) := by decide +kernel
theorem dX8_litNow_1 : decode cX8_litNow 1 = .ok (.istore_n 1, 1) := by decide +kernel
theorem dX8_litNow_2 : decode cX8_litNow 2 = .ok (.iconst 0, 1) := by decide +kernel
theorem dX8_litNow_3 : decode cX8_litNow 3 = .ok (.istore_n 2, 1) := by decide +kernel
theorem dX8_litNow_4 : decode cX8_litNow 4 = .ok (.iload_n 2, 1) := by decide +kernel
theorem dX8_litNow_5 : decode cX8_litNow 5 = .ok (.aload_n 0, 1) := by decide +kernel
theorem dX8_litNow_6 : decode cX8_litNow 6 = .ok (.getfield 60, 3) := by decide +kernel
theorem dX8_litNow_9 : decode cX8_litNow 9 = .ok (.if_icmp .ge 27, 3) := by decide +kernel
theorem dX8_litNow_12 : decode cX8_litNow 12 = .ok (.iload_n 1, 1) := by decide +kernel
theorem dX8_litNow_13 : decode cX8_litNow 13 = .ok (.aload_n 0, 1) := by decide +kernel
theorem dX8_litNow_14 : decode cX8_litNow 14 = .ok (.iload_n 2, 1) := by decide +kernel
theorem dX8_litNow_15 : decode cX8_litNow 15 = .ok (.invokevirtual 117, 3) := by decide +kernel
theorem dX8_litNow_18 : decode cX8_litNow 18 = .ok (.bipush (-9), 2) := by decide +kernel
theorem dX8_litNow_20 : decode cX8_litNow 20 = .ok (.if_icmp .ne 7, 3) := by decide +kernel
theorem dX8_litNow_23 : decode cX8_litNow 23 = .ok (.iconst 0, 1) := by decide +kernel
theorem dX8_litNow_24 : decode cX8_litNow 24 = .ok (.goto 4, 3) := by decide +kernel
theorem dX8_litNow_27 : decode cX8_litNow 27 = .ok (.iconst 1, 1) := by decide +kernel
theorem dX8_litNow_28 : decode cX8_litNow 28 = .ok (.iadd, 1) := by decide +kernel
theorem dX8_litNow_29 : decode cX8_litNow 29 = .ok (.istore_n 1, 1) := by decide +kernel
theorem dX8_litNow_30 : decode cX8_litNow 30 = .ok (.iinc 2 1, 3) := by decide +kernel
theorem dX8_litNow_33 : decode cX8_litNow 33 = .ok (.goto (-29), 3) := by decide +kernel
theorem dX8_litNow_36 : decode cX8_litNow 36 = .ok (.iload_n 1, 1) := by decide +kernel
theorem dX8_litNow_37 : decode cX8_litNow 37 = .ok (.ireturn, 1) := by decide +kernel
set_option maxRecDepth 20000 in
theorem ggX8_many_X8_litNow : GoodIn wsX8_many wsX8_litNow := goodIn_r _ [8, 1, 9, 10, 11, 7, 12, 13, 14, 15, 16, 17, 18, 19, 20, 21, 22, 23, 24, 25, 26, 27, 28, 29, 30, 31, 32, 33, 34, 35, 36, 37, 38, 39, 40, 41, 42] (by decide +kernel) (by decide +kernel)
set_option maxRecDepth 20000 in
theorem gX8_many_X8_litNow : GoodIn wsX8_many (wsV RX8 170 RX8 yX8_litNow wsX8_litNow) := goodIn_app (goodIn_of _ (by decide +kernel)) ggX8_many_X8_litNow
theorem dX8_many_0 : decode cX8_many 0 = .ok (.iload_n 1, 1) := by decide +kernel
theorem dX8_many_1 : decode cX8_many 1 = .ok (.ifCond .ne 10, 3) := by decide +kernel
theorem dX8_many_4 : decode cX8_many 4 = .ok (.aload_n 0, 1) := by decide +kernel
theorem dX8_many_5 : decode cX8_many 5 = .ok (.getfield 60, 3) := by decide +kernel
theorem dX8_many_8 : decode cX8_many 8 = .ok (.goto 41, 3) := by decide +kernel
theorem dX8_many_11 : decode cX8_many 11 = .ok (.iload_n 1, 1) := by decide +kernel
theorem dX8_many_12 : decode cX8_many 12 = .ok (.iconst 1, 1) := by decide +kernel
theorem dX8_many_13 : decode cX8_many 13 = .ok (.if_icmp .ne 10, 3) := by decide +kernel
theorem dX8_many_16 : decode cX8_many 16 = .ok (.aload_n 0, 1) := by decide +kernel
theorem dX8_many_17 : decode cX8_many 17 = .ok (.getfield 93, 3) := by decide +kernel
theorem dX8_many_20 : decode cX8_many 20 = .ok (.goto 29, 3) := by decide +kernel
theorem dX8_many_23 : decode cX8_many 23 = .ok (.iload_n 1, 1) := by decide +kernel
theorem dX8_many_24 : decode cX8_many 24 = .ok (.iconst 2, 1) := by decide +kernel
theorem dX8_many_25 : decode cX8_many 25 = .ok (.if_icmp .ne 10, 3) := by decide +kernel
theorem dX8_many_28 : decode cX8_many 28 = .ok (.aload_n 0, 1) := by decide +kernel
theorem dX8_many_29 : decode cX8_many 29 = .ok (.invokevirtual 170, 3) := by decide +kernel
theorem dX8_many_32 : decode cX8_many 32 = .ok (.goto 17, 3) := by decide +kernel
theorem dX8_many_35 : decode cX8_many 35 = .ok (.iload_n 1, 1) := by decide +kernel
theorem dX8_many_36 : decode cX8_many 36 = .ok (.iconst 3, 1) := by decide +kernel
theorem dX8_many_37 : decode cX8_many 37 = .ok (.if_icmp .ne 10, 3) := by decide +kernel
theorem dX8_many_40 : decode cX8_many 40 = .ok (.aload_n 0, 1) := by decide +kernel
theorem dX8_many_41 : decode cX8_many 41 = .ok (.getfield 96, 3) := by decide +kernel
theorem dX8_many_44 : decode cX8_many 44 = .ok (.goto 5, 3) := by decide +kernel
theorem dX8_many_47 : decode cX8_many 47 = .ok (.bipush (-2), 2) := by decide +kernel
theorem dX8_many_49 : decode cX8_many 49 = .ok (.ireturn, 1) := by decide +kernel
