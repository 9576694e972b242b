set_option maxRecDepth 20000 in
theorem ggX7_init_X5_init : GoodIn wsX7_init wsX5_init := goodIn_r _ [24, 25, 2, 3, 26, 27, 28, 29, 30, 31, 32, 33, 34, 35, 36, 37, 38, 39, 40, 41, 42, 43, 44, 45, 46, 47, 48, 49, 64, 65, 66, 67, 68, 69, 70] (by decide +kernel) (by decide +kernel)
set_option maxRecDepth 20000 in
theorem gX7_init_X5_init_n11 : GoodIn wsX7_init (wsX5_init) := ggX7_init_X5_init
set_option maxRecDepth 20000 in
theorem ggX7_init_X6_init : GoodIn wsX7_init wsX6_init := goodIn_r _ [51, 52, 2, 3] (by decide +kernel) (by decide +kernel)
set_option maxRecDepth 20000 in
theorem gX7_init_X6_init_n26 : GoodIn wsX7_init (wsX6_init) := ggX7_init_X6_init
set_option maxRecDepth 20000 in
theorem ggX7_init_X2_init : GoodIn wsX7_init wsX2_init := goodIn_r _ [54, 55, 2, 3, 36, 56, 57, 58, 79, 80, 81, 82] (by decide +kernel) (by decide +kernel)
set_option maxRecDepth 20000 in
theorem gX7_init_X2_init_n33 : GoodIn wsX7_init (wsX2_init) := ggX7_init_X2_init
set_option maxRecDepth 20000 in
theorem ggX7_init_X4_init : GoodIn wsX7_init wsX4_init := goodIn_r _ [60, 61, 2, 3, 36, 62, 63, 83, 84, 85] (by decide +kernel) (by decide +kernel)
set_option maxRecDepth 20000 in
theorem gX7_init_X4_init_n40 : GoodIn wsX7_init (wsX4_init) := ggX7_init_X4_init
theorem dX7_init_0 : decode cX7_init 0 = .ok (.aload_n 0, 1) := by decide +kernel
theorem dX7_init_1 : decode cX7_init 1 = .ok (.invokespecial 3, 3) := by decide +kernel
theorem dX7_init_4 : decode cX7_init 4 = .ok (.aload_n 0, 1) := by decide +kernel
theorem dX7_init_5 : decode cX7_init 5 = .ok (.new 9, 3) := by decide +kernel
theorem dX7_init_8 : decode cX7_init 8 = .ok (.dup, 1) := by decide +kernel
theorem dX7_init_9 : decode cX7_init 9 = .ok (.invokespecial 11, 3) := by decide +kernel
theorem dX7_init_12 : decode cX7_init 12 = .ok (.putfield 12, 3) := by decide +kernel
theorem dX7_init_15 : decode cX7_init 15 = .ok (.aload_n 0, 1) := by decide +kernel
theorem dX7_init_16 : decode cX7_init 16 = .ok (.new 9, 3) := by decide +kernel
theorem dX7_init_19 : decode cX7_init 19 = .ok (.dup, 1) := by decide +kernel
theorem dX7_init_20 : decode cX7_init 20 = .ok (.invokespecial 11, 3) := by decide +kernel
theorem dX7_init_23 : decode cX7_init 23 = .ok (.putfield 18, 3) := by decide +kernel
theorem dX7_init_26 : decode cX7_init 26 = .ok (.aload_n 0, 1) := by decide +kernel
theorem dX7_init_27 : decode cX7_init 27 = .ok (.new 9, 3) := by decide +kernel
theorem dX7_init_30 : decode cX7_init 30 = .ok (.dup, 1) := by decide +kernel
theorem dX7_init_31 : decode cX7_init 31 = .ok (.invokespecial 11, 3) := by decide +kernel
theorem dX7_init_34 : decode cX7_init 34 = .ok (.putfield 21, 3) := by decide +kernel
theorem dX7_init_37 : decode cX7_init 37 = .ok (.aload_n 0, 1) := by decide +kernel
theorem dX7_init_38 : decode cX7_init 38 = .ok (.new 24, 3) := by decide +kernel
theorem dX7_init_41 : decode cX7_init 41 = .ok (.dup, 1) := by decide +kernel
theorem dX7_init_42 : decode cX7_init 42 = .ok (.invokespecial 26, 3) := by decide +kernel
theorem dX7_init_45 : decode cX7_init 45 = .ok (.putfield 27, 3) := by decide +kernel
theorem dX7_init_48 : decode cX7_init 48 = .ok (.aload_n 0, 1) := by decide +kernel
theorem dX7_init_49 : decode cX7_init 49 = .ok (.new 31, 3) := by decide +kernel
theorem dX7_init_52 : decode cX7_init 52 = .ok (.dup, 1) := by decide +kernel
theorem dX7_init_53 : decode cX7_init 53 = .ok (.invokespecial 33, 3) := by decide +kernel
theorem dX7_init_56 : decode cX7_init 56 = .ok (.putfield 34, 3) := by decide +kernel
theorem dX7_init_59 : decode cX7_init 59 = .ok (.aload_n 0, 1) := by decide +kernel
theorem dX7_init_60 : decode cX7_init 60 = .ok (.iconst 4, 1) := by decide +kernel
theorem dX7_init_61 : decode cX7_init 61 = .ok (.anewarray 38, 3) := by decide +kernel
theorem dX7_init_64 : decode cX7_init 64 = .ok (.dup, 1) := by decide +kernel
theorem dX7_init_65 : decode cX7_init 65 = .ok (.iconst 0, 1) := by decide +kernel
theorem dX7_init_66 : decode cX7_init 66 = .ok (.new 38, 3) := by decide +kernel
theorem dX7_init_69 : decode cX7_init 69 = .ok (.dup, 1) := by decide +kernel
theorem dX7_init_70 : decode cX7_init 70 = .ok (.invokespecial 40, 3) := by decide +kernel
theorem dX7_init_73 : decode cX7_init 73 = .ok (.aastore, 1) := by decide +kernel
theorem dX7_init_74 : decode cX7_init 74 = .ok (.dup, 1) := by decide +kernel
theorem dX7_init_75 : decode cX7_init 75 = .ok (.iconst 1, 1) := by decide +kernel
theorem dX7_init_76 : decode cX7_init 76 = .ok (.new 38, 3) := by decide +kernel
theorem dX7_init_79 : decode cX7_init 79 = .ok (.dup, 1) := by decide +kernel
theorem dX7_init_80 : decode cX7_init 80 = .ok (.invokespecial 40, 3) := by decide +kernel
theorem dX7_init_83 : decode cX7_init 83 = .ok (.aastore, 1) := by decide +kernel
theorem dX7_init_84 : decode cX7_init 84 = .ok (.dup, 1) := by decide +kernel
theorem dX7_init_85 : decode cX7_init 85 = .ok (.iconst 2, 1) := by decide +kernel
theorem dX7_init_86 : decode cX7_init 86 = .ok (.new 38, 3) := by decide +kernel
theorem dX7_init_89 : decode cX7_init 89 = .ok (.dup, 1) := by decide +kernel
theorem dX7_init_90 : decode cX7_init 90 = .ok (.invokespecial 40, 3) := by decide +kernel
theorem dX7_init_93 : decode cX7_init 93 = .ok (.aastore, 1) := by decide +kernel
theorem dX7_init_94 : decode cX7_init 94 = .ok (.dup, 1) := by decide +kernel
theorem dX7_init_95 : decode cX7_init 95 = .ok (.iconst 3, 1) := by decide +kernel
theorem dX7_init_96 : decode cX7_init 96 = .ok (.new 38, 3) := by decide +kernel
theorem dX7_init_99 : decode cX7_init 99 = .ok (.dup, 1) := by decide +kernel
theorem dX7_init_100 : decode cX7_init 100 = .ok (.invokespecial 40, 3) := by decide +kernel
theorem dX7_init_103 : decode cX7_init 103 = .ok (.aastore, 1) := by decide +kernel
theorem dX7_init_104 : decode cX7_init 104 = .ok (.putfield 41, 3) := by decide +kernel
theorem dX7_init_107 : decode cX7_init 107 = .ok (.aload_n 0, 1) := by decide +kernel
theorem dX7_init_108 : decode cX7_init 108 = .ok (.iconst 0, 1) := by decide +kernel
theorem dX7_init_109 : decode cX7_init 109 = .ok (.putfield 45, 3) := by decide +kernel
theorem dX7_init_112 : decode cX7_init 112 = .ok (.return_, 1) := by decide +kernel
set_option maxRecDepth 20000 in
theorem ggX7_town_X7_isSheet : GoodIn wsX7_town wsX7_isSheet := goodIn_r _ [9] (by decide +kernel) (by decide +kernel)
set_option maxRecDepth 20000 in
theorem gX7_town_X7_isSheet : GoodIn wsX7_town (va_wsS RX7 49 yX7_isSheet wsX7_isSheet) := goodIn_app (goodIn_of _ (by decide +kernel)) ggX7_town_X7_isSheet
set_option maxRecDepth 20000 in
theorem ggX7_town_X7_isWithin : GoodIn wsX7_town wsX7_isWithin := goodIn_r _ [12] (by decide +kernel) (by decide +kernel)
set_option maxRecDepth 20000 in
theorem gX7_town_X7_isWithin : GoodIn wsX7_town (va_wsS RX7 53 yX7_isWithin wsX7_isWithin) := goodIn_app (goodIn_of _ (by decide +kernel)) ggX7_town_X7_isWithin
set_option maxRecDepth 20000 in
theorem ggX7_town_X4_isOfLane : GoodIn wsX7_town wsX4_isOfLane := goodIn_r _ [17, 18, 19, 20, 21, 16, 22, 23, 99, 100, 101] (by decide +kernel) (by decide +kernel)
set_option maxRecDepth 20000 in
theorem gX7_town_X4_isOfLane : GoodIn wsX7_town (wsV RX7 57 RX4 yX4_isOfLane wsX4_isOfLane) := goodIn_app (goodIn_of _ (by decide +kernel)) ggX7_town_X4_isOfLane
set_option maxRecDepth 20000 in
theorem ggX7_town_X7_faulted : GoodIn wsX7_town wsX7_faulted := goodIn_r _ [27, 1, 85, 86, 87, 88, 89, 90, 91] (by decide +kernel) (by decide +kernel)
set_option maxRecDepth 20000 in
theorem gX7_town_X7_faulted : GoodIn wsX7_town (wsV RX7 60 RX7 yX7_faulted wsX7_faulted) := goodIn_app (goodIn_of _ (by decide +kernel)) ggX7_town_X7_faulted
set_option maxRecDepth 20000 in
theorem ggX7_town_X4_hasNothing : GoodIn wsX7_town wsX4_hasNothing := goodIn_r _ [22, 23, 99, 100, 101] (by decide +kernel) (by decide +kernel)
set_option maxRecDepth 20000 in
theorem gX7_town_X4_hasNothing : GoodIn wsX7_town (wsV RX7 64 RX4 yX4_hasNothing wsX4_hasNothing) := goodIn_app (goodIn_of _ (by decide +kernel)) ggX7_town_X4_hasNothing
set_option maxRecDepth 20000 in
theorem ggX7_town_X4_hasCells : GoodIn wsX7_town wsX4_hasCells := goodIn_r _ [32, 23, 99, 100, 101] (by decide +kernel) (by decide +kernel)
set_option maxRecDepth 20000 in
theorem gX7_town_X4_hasCells : GoodIn wsX7_town (wsV RX7 68 RX4 yX4_hasCells wsX4_hasCells) := goodIn_app (goodIn_of _ (by decide +kernel)) ggX7_town_X4_hasCells
set_option maxRecDepth 20000 in
theorem ggX7_town_X5_readText : GoodIn wsX7_town wsX5_readText := goodIn_r _ [37, 38, 39, 40, 41, 16, 42, 43, 44, 45, 46, 47, 23, 48, 49, 50, 36, 51, 52, 53, 54, 55, 56, 57, 58, 59, 60, 61, 62, 63, 64, 65, 66, 67, 68, 69, 70, 71, 72, 73, 74, 92, 93, 94, 95, 96, 97, 98, 99, 100, 101] (by decide +kernel) (by decide +kernel)
set_option maxRecDepth 20000 in
theorem gX7_town_X5_readText : GoodIn wsX7_town (wsV RX7 71 RX5 yX5_readText wsX5_readText) := goodIn_app (goodIn_of _ (by decide +kernel)) ggX7_town_X5_readText
set_option maxRecDepth 20000 in
theorem ggX7_town_X5_becomeLike : GoodIn wsX7_town wsX5_becomeLike := goodIn_r _ [78, 38, 60, 69, 74, 92, 93, 94, 95, 96, 97, 98] (by decide +kernel) (by decide +kernel)
set_option maxRecDepth 20000 in
theorem gX7_town_X5_becomeLike : GoodIn wsX7_town (wsV RX7 75 RX5 yX5_becomeLike wsX5_becomeLike) := goodIn_app (goodIn_of _ (by decide +kernel)) ggX7_town_X5_becomeLike
set_option maxRecDepth 20000 in
theorem ggX7_town_X2_keepFirst : GoodIn wsX7_town wsX2_keepFirst := goodIn_r _ [83, 84, 102, 103, 104, 105] (by decide +kernel) (by decide +kernel)
set_option maxRecDepth 20000 in
theorem gX7_town_X2_keepFirst : GoodIn wsX7_town (wsV RX7 79 RX2 yX2_keepFirst wsX2_keepFirst) := goodIn_app (goodIn_of _ (by decide +kernel)) ggX7_town_X2_keepFirst
theorem dX7_town_0 : decode cX7_town 0 = .ok (.aload_n 0, 1) := by decide +kernel
theorem dX7_town_1 : decode cX7_town 1 = .ok (.iconst 0, 1) := by decide +kernel
theorem dX7_town_2 : decode cX7_town 2 = .ok (.putfield 45, 3) := by decide +kernel
theorem dX7_town_5 : decode cX7_town 5 = .ok (.iload_n 1, 1) := by decide +kernel
theorem dX7_town_6 : decode cX7_town 6 = .ok (.invokestatic 49, 3) := by decide +kernel
theorem dX7_town_9 : decode cX7_town 9 = .ok (.ifCond .ne 5, 3) := by decide +kernel
theorem dX7_town_12 : decode cX7_town 12 = .ok (.iconst (-1), 1) := by decide +kernel
theorem dX7_town_13 : decode cX7_town 13 = .ok (.ireturn, 1) := by decide +kernel
theorem dX7_town_14 : decode cX7_town 14 = .ok (.iload_n 2, 1) := by decide +kernel
theorem dX7_town_15 : decode cX7_town 15 = .ok (.iconst 2, 1) := by decide +kernel
theorem dX7_town_16 : decode cX7_town 16 = .ok (.invokestatic 53, 3) := by decide +kernel
theorem dX7_town_19 : decode cX7_town 19 = .ok (.ifCond .ne 6, 3) := by decide +kernel
theorem dX7_town_22 : decode cX7_town 22 = .ok (.bipush (-2), 2) := by decide +kernel
theorem dX7_town_24 : decode cX7_town 24 = .ok (.ireturn, 1) := by decide +kernel
theorem dX7_town_25 : decode cX7_town 25 = .ok (.aload_n 0, 1) := by decide +kernel
theorem dX7_town_26 : decode cX7_town 26 = .ok (.getfield 41, 3) := by decide +kernel
theorem dX7_town_29 : decode cX7_town 29 = .ok (.iload_n 1, 1) := by decide +kernel
theorem dX7_town_30 : decode cX7_town 30 = .ok (.aaload, 1) := by decide +kernel
theorem dX7_town_31 : decode cX7_town 31 = .ok (.astore 5, 2) := by decide +kernel
theorem dX7_town_33 : decode cX7_town 33 = .ok (.aload 5, 2) := by decide +kernel
theorem dX7_town_35 : decode cX7_town 35 = .ok (.iload_n 2, 1) := by decide +kernel
theorem dX7_town_36 : decode cX7_town 36 = .ok (.invokevirtual 57, 3) := by decide +kernel
theorem dX7_town_39 : decode cX7_town 39 = .ok (.ifCond .ne 9, 3) := by decide +kernel
theorem dX7_town_42 : decode cX7_town 42 = .ok (.aload_n 0, 1) := by decide +kernel
theorem dX7_town_43 : decode cX7_town 43 = .ok (.iconst 2, 1) := by decide +kernel
theorem dX7_town_44 : decode cX7_town 44 = .ok (.invokevirtual 60, 3) := by decide +kernel
theorem dX7_town_47 : decode cX7_town 47 = .ok (.ireturn, 1) := by decide +kernel
theorem dX7_town_48 : decode cX7_town 48 = .ok (.aload 5, 2) := by decide +kernel
theorem dX7_town_50 : decode cX7_town 50 = .ok (.invokevirtual 64, 3) := by decide +kernel
theorem dX7_town_53 : decode cX7_town 53 = .ok (.ifCond .eq 9, 3) := by decide +kernel
theorem dX7_town_56 : decode cX7_town 56 = .ok (.aload_n 0, 1) := by decide +kernel
theorem dX7_town_57 : decode cX7_town 57 = .ok (.iconst 1, 1) := by decide +kernel
theorem dX7_town_58 : decode cX7_town 58 = .ok (.invokevirtual 60, 3) := by decide +kernel
theorem dX7_town_61 : decode cX7_town 61 = .ok (.ireturn, 1) := by decide +kernel
theorem dX7_town_62 : decode cX7_town 62 = .ok (.iload 4, 2) := by decide +kernel
theorem dX7_town_64 : decode cX7_town 64 = .ok (.ifCond .ge 9, 3) := by decide +kernel
theorem dX7_town_67 : decode cX7_town 67 = .ok (.aload_n 0, 1) := by decide +kernel
theorem dX7_town_68 : decode cX7_town 68 = .ok (.iconst 4, 1) := by decide +kernel
theorem dX7_town_69 : decode cX7_town 69 = .ok (.invokevirtual 60, 3) := by decide +kernel
theorem dX7_town_72 : decode cX7_town 72 = .ok (.ireturn, 1) := by decide +kernel
theorem dX7_town_73 : decode cX7_town 73 = .ok (.aload 5, 2) := by decide +kernel
theorem dX7_town_75 : decode cX7_town 75 = .ok (.iload_n 3, 1) := by decide +kernel
theorem dX7_town_76 : decode cX7_town 76 = .ok (.iload 4, 2) := by decide +kernel
theorem dX7_town_78 : decode cX7_town 78 = .ok (.invokevirtual 68, 3) := by decide +kernel
theorem dX7_town_81 : decode cX7_town 81 = .ok (.ifCond .ne 9, 3) := by decide +kernel
theorem dX7_town_84 : decode cX7_town 84 = .ok (.aload_n 0, 1) := by decide +kernel
theorem dX7_town_85 : decode cX7_town 85 = .ok (.iconst 3, 1) := by decide +kernel
theorem dX7_town_86 : decode cX7_town 86 = .ok (.invokevirtual 60, 3) := by decide +kernel
theorem dX7_town_89 : decode cX7_town 89 = .ok (.ireturn, 1) := by decide +kernel
theorem dX7_town_90 : decode cX7_town 90 = .ok (.aload_n 0, 1) := by decide +kernel
theorem dX7_town_91 : decode cX7_town 91 = .ok (.getfield 21, 3) := by decide +kernel
theorem dX7_town_94 : decode cX7_town 94 = .ok (.aload 5, 2) := by decide +kernel
theorem dX7_town_96 : decode cX7_town 96 = .ok (.iload_n 3, 1) := by decide +kernel
theorem dX7_town_97 : decode cX7_town 97 = .ok (.iload 4, 2) := by decide +kernel
theorem dX7_town_99 : decode cX7_town 99 = .ok (.invokevirtual 71, 3) := by decide +kernel
theorem dX7_town_102 : decode cX7_town 102 = .ok (.istore 6, 2) := by decide +kernel
theorem dX7_town_104 : decode cX7_town 104 = .ok (.iload 6, 2) := by decide +kernel
theorem dX7_town_106 : decode cX7_town 106 = .ok (.bipush (-9), 2) := by decide +kernel
theorem dX7_town_108 : decode cX7_town 108 = .ok (.if_icmp .eq 9, 3) := by decide +kernel
theorem dX7_town_111 : decode cX7_town 111 = .ok (.bipush (-100), 2) := by decide +kernel
theorem dX7_town_113 : decode cX7_town 113 = .ok (.iload 6, 2) := by decide +kernel
theorem dX7_town_115 : decode cX7_town 115 = .ok (.isub, 1) := by decide +kernel
theorem dX7_town_116 : decode cX7_town 116 = .ok (.ireturn, 1) := by decide +kernel
theorem dX7_town_117 : decode cX7_town 117 = .ok (.aload_n 0, 1) := by decide +kernel
theorem dX7_town_118 : decode cX7_town 118 = .ok (.getfield 12, 3) := by decide +kernel
theorem dX7_town_121 : decode cX7_town 121 = .ok (.aload_n 0, 1) := by decide +kernel
theorem dX7_town_122 : decode cX7_town 122 = .ok (.getfield 21, 3) := by decide +kernel
theorem dX7_town_125 : decode cX7_town 125 = .ok (.invokevirtual 75, 3) := by decide +kernel
theorem dX7_town_128 : decode cX7_town 128 = .ok (.aload_n 0, 1) := by decide +kernel
theorem dX7_town_129 : decode cX7_town 129 = .ok (.getfield 34, 3) := by decide +kernel
theorem dX7_town_132 : decode cX7_town 132 = .ok (.iconst 0, 1) := by decide +kernel
theorem dX7_town_133 : decode cX7_town 133 = .ok (.invokevirtual 79, 3) := by decide +kernel
theorem dX7_town_136 : decode cX7_town 136 = .ok (.aload_n 0, 1) := by decide +kernel
theorem dX7_town_137 : decode cX7_town 137 = .ok (.getfield 12, 3) := by decide +kernel
theorem dX7_town_140 : decode cX7_town 140 = .ok (.getfield 83, 3) := by decide +kernel
theorem dX7_town_143 : decode cX7_town 143 = .ok (.ireturn, 1) := by decide +kernel
set_option maxRecDepth 20000 in
theorem ggX7_ofPerson_X7_isPerson : GoodIn wsX7_ofPerson wsX7_isPerson := goodIn_r _ [6, 1, 68, 69, 70, 71, 72, 73, 74, 75, 76, 77, 78, 79, 80, 81] (by decide +kernel) (by decide +kernel)
set_option maxRecDepth 20000 in
theorem gX7_ofPerson_X7_isPerson : GoodIn wsX7_ofPerson (wsV RX7 86 RX7 yX7_isPerson wsX7_isPerson) := goodIn_app (goodIn_of _ (by decide +kernel)) ggX7_ofPerson_X7_isPerson
set_option maxRecDepth 20000 in
theorem ggX7_ofPerson_X5_penceInAll : GoodIn wsX7_ofPerson wsX5_penceInAll := goodIn_r _ [11, 12, 13, 75, 76, 77, 78, 79, 80, 81] (by decide +kernel) (by decide +kernel)
set_option maxRecDepth 20000 in
theorem gX7_ofPerson_X5_penceInAll : GoodIn wsX7_ofPerson (wsV RX7 93 RX5 yX5_penceInAll wsX5_penceInAll) := goodIn_app (goodIn_of _ (by decide +kernel)) ggX7_ofPerson_X5_penceInAll
set_option maxRecDepth 20000 in
theorem ggX7_ofPerson_X5_roundOf : GoodIn wsX7_ofPerson wsX5_roundOf := goodIn_r _ [17, 18, 19, 20, 10, 21, 12, 22, 23, 24, 25, 26, 27, 28, 29, 30, 31, 32, 13, 33, 34, 35, 36, 37, 38, 39, 40, 41, 42, 43, 44, 45, 46, 47, 48, 49, 50, 51, 52, 75, 76, 77, 78, 79, 80, 81] (by decide +kernel) (by decide +kernel)
set_option maxRecDepth 20000 in
theorem gX7_ofPerson_X5_roundOf : GoodIn wsX7_ofPerson (wsV RX7 96 RX5 yX5_roundOf wsX5_roundOf) := goodIn_app (goodIn_of _ (by decide +kernel)) ggX7_ofPerson_X5_roundOf
set_option maxRecDepth 20000 in
theorem ggX7_ofPerson_X5_stepsOf : GoodIn wsX7_ofPerson wsX5_stepsOf := goodIn_r _ [56, 57, 15, 16, 10, 17, 18, 19, 20, 21, 12, 22, 23, 24, 25, 26, 27, 28, 29, 30, 31, 32, 13, 33, 34, 35, 36, 37, 38, 39, 40, 41, 42, 43, 44, 45, 46, 47, 48, 49, 50, 51, 52, 58, 59, 60, 61, 62, 63, 64, 65, 66, 67, 75, 76, 77, 78, 79, 80, 81] (by decide +kernel) (by decide +kernel)
set_option maxRecDepth 20000 in
theorem gX7_ofPerson_X5_stepsOf : GoodIn wsX7_ofPerson (wsV RX7 99 RX5 yX5_stepsOf wsX5_stepsOf) := goodIn_app (goodIn_of _ (by decide +kernel)) ggX7_ofPerson_X5_stepsOf
theorem dX7_ofPerson_0 : decode cX7_ofPerson 0 = .ok (.aload_n 0, 1) := by decide +kernel
theorem dX7_ofPerson_1 : decode cX7_ofPerson 1 = .ok (.iload_n 1, 1) := by decide +kernel
theorem dX7_ofPerson_2 : decode cX7_ofPerson 2 = .ok (.invokevirtual 86, 3) := by decide +kernel
theorem dX7_ofPerson_5 : decode cX7_ofPerson 5 = .ok (.ifCond .ne 5, 3) := by decide +kernel
theorem dX7_ofPerson_8 : decode cX7_ofPerson 8 = .ok (.iconst (-1), 1) := by decide +kernel
theorem dX7_ofPerson_9 : decode cX7_ofPerson 9 = .ok (.ireturn, 1) := by decide +kernel
theorem dX7_ofPerson_10 : decode cX7_ofPerson 10 = .ok (.iload_n 2, 1) := by decide +kernel
theorem dX7_ofPerson_11 : decode cX7_ofPerson 11 = .ok (.tableswitch 94 0 4 #[33, 43, 52, 61, 70], 33) := by decide +kernel
theorem dX7_ofPerson_44 : decode cX7_ofPerson 44 = .ok (.aload_n 0, 1) := by decide +kernel
theorem dX7_ofPerson_45 : decode cX7_ofPerson 45 = .ok (.getfield 12, 3) := by decide +kernel
theorem dX7_ofPerson_48 : decode cX7_ofPerson 48 = .ok (.getfield 89, 3) := by decide +kernel
theorem dX7_ofPerson_51 : decode cX7_ofPerson 51 = .ok (.iload_n 1, 1) := by decide +kernel
theorem dX7_ofPerson_52 : decode cX7_ofPerson 52 = .ok (.iaload, 1) := by decide +kernel
theorem dX7_ofPerson_53 : decode cX7_ofPerson 53 = .ok (.ireturn, 1) := by decide +kernel
theorem dX7_ofPerson_54 : decode cX7_ofPerson 54 = .ok (.aload_n 0, 1) := by decide +kernel
theorem dX7_ofPerson_55 : decode cX7_ofPerson 55 = .ok (.getfield 12, 3) := by decide +kernel
theorem dX7_ofPerson_58 : decode cX7_ofPerson 58 = .ok (.iload_n 1, 1) := by decide +kernel
theorem dX7_ofPerson_59 : decode cX7_ofPerson 59 = .ok (.invokevirtual 93, 3) := by decide +kernel
theorem dX7_ofPerson_62 : decode cX7_ofPerson 62 = .ok (.ireturn, 1) := by decide +kernel
theorem dX7_ofPerson_63 : decode cX7_ofPerson 63 = .ok (.aload_n 0, 1) := by decide +kernel
theorem dX7_ofPerson_64 : decode cX7_ofPerson 64 = .ok (.getfield 12, 3) := by decide +kernel
theorem dX7_ofPerson_67 : decode cX7_ofPerson 67 = .ok (.iload_n 1, 1) := by decide +kernel
theorem dX7_ofPerson_68 : decode cX7_ofPerson 68 = .ok (.invokevirtual 96, 3) := by decide +kernel
theorem dX7_ofPerson_71 : decode cX7_ofPerson 71 = .ok (.ireturn, 1) := by decide +kernel
theorem dX7_ofPerson_72 : decode cX7_ofPerson 72 = .ok (.aload_n 0, 1) := by decide +kernel
theorem dX7_ofPerson_73 : decode cX7_ofPerson 73 = .ok (.getfield 12, 3) := by decide +kernel
theorem dX7_ofPerson_76 : decode cX7_ofPerson 76 = .ok (.iload_n 1, 1) := by decide +kernel
theorem dX7_ofPerson_77 : decode cX7_ofPerson 77 = .ok (.invokevirtual 99, 3) := by decide +kernel
theorem dX7_ofPerson_80 : decode cX7_ofPerson 80 = .ok (.ireturn, 1) := by decide +kernel
theorem dX7_ofPerson_81 : decode cX7_ofPerson 81 = .ok (.aload_n 0, 1) := by decide +kernel
theorem dX7_ofPerson_82 : decode cX7_ofPerson 82 = .ok (.getfield 12, 3) := by decide +kernel
theorem dX7_ofPerson_85 : decode cX7_ofPerson 85 = .ok (.iload_n 1, 1) := by decide +kernel
theorem dX7_ofPerson_86 : decode cX7_ofPerson 86 = .ok (.invokevirtual 99, 3) := by decide +kernel
theorem dX7_ofPerson_89 : decode cX7_ofPerson 89 = .ok (.aload_n 0, 1) := by decide +kernel
theorem dX7_ofPerson_90 : decode cX7_ofPerson 90 = .ok (.getfield 12, 3) := by decide +kernel
theorem dX7_ofPerson_93 : decode cX7_ofPerson 93 = .ok (.getfield 102, 3) := by decide +kernel
theorem dX7_ofPerson_96 : decode cX7_ofPerson 96 = .ok (.if_icmp .gt 7, 3) := by decide +kernel
theorem dX7_ofPerson_99 : decode cX7_ofPerson 99 = .ok (.iconst 1, 1) := by decide +kernel
theorem dX7_ofPerson_100 : decode cX7_ofPerson 100 = .ok (.goto 4, 3) := by decide +kernel
theorem dX7_ofPerson_103 : decode cX7_ofPerson 103 = .ok (.iconst 0, 1) := by decide +kernel
theorem dX7_ofPerson_104 : decode cX7_ofPerson 104 = .ok (.ireturn, 1) := by decide +kernel
theorem dX7_ofPerson_105 : decode cX7_ofPerson 105 = .ok (.bipush (-2), 2) := by decide +kernel
theorem dX7_ofPerson_107 : decode cX7_ofPerson 107 = .ok (.ireturn, 1) := by decide +kernel
set_option maxRecDepth 20000 in
theorem ggX7_owe_X7_isPerson : GoodIn wsX7_owe wsX7_isPerson := goodIn_r _ [6, 1, 10, 11, 12, 13, 14, 15, 16, 17, 18, 19, 20, 21, 22, 23] (by decide +kernel) (by decide +kernel)
set_option maxRecDepth 20000 in
theorem gX7_owe_X7_isPerson : GoodIn wsX7_owe (wsV RX7 86 RX7 yX7_isPerson wsX7_isPerson) := goodIn_app (goodIn_of _ (by decide +kernel)) ggX7_owe_X7_isPerson
set_option maxRecDepth 20000 in
theorem ggX7_owe_X7_isWithin : GoodIn wsX7_owe wsX7_isWithin := goodIn_r _ [9] (by decide +kernel) (by decide +kernel)
set_option maxRecDepth 20000 in
theorem gX7_owe_X7_isWithin : GoodIn wsX7_owe (va_wsS RX7 53 yX7_isWithin wsX7_isWithin) := goodIn_app (goodIn_of _ (by decide +kernel)) ggX7_owe_X7_isWithin
theorem dX7_owe_0 : decode cX7_owe 0 = .ok (.aload_n 0, 1) := by decide +kernel
theorem dX7_owe_1 : decode cX7_owe 1 = .ok (.iload_n 1, 1) := by decide +kernel
theorem dX7_owe_2 : decode cX7_owe 2 = .ok (.invokevirtual 86, 3) := by decide +kernel
theorem dX7_owe_5 : decode cX7_owe 5 = .ok (.ifCond .eq 16, 3) := by decide +kernel
theorem dX7_owe_8 : decode cX7_owe 8 = .ok (.aload_n 0, 1) := by decide +kernel
theorem dX7_owe_9 : decode cX7_owe 9 = .ok (.iload_n 2, 1) := by decide +kernel
theorem dX7_owe_10 : decode cX7_owe 10 = .ok (.invokevirtual 86, 3) := by decide +kernel
theorem dX7_owe_13 : decode cX7_owe 13 = .ok (.ifCond .eq 8, 3) := by decide +kernel
theorem dX7_owe_16 : decode cX7_owe 16 = .ok (.iload_n 1, 1) := by decide +kernel
theorem dX7_owe_17 : decode cX7_owe 17 = .ok (.iload_n 2, 1) := by decide +kernel
theorem dX7_owe_18 : decode cX7_owe 18 = .ok (.if_icmp .ne 5, 3) := by decide +kernel
theorem dX7_owe_21 : decode cX7_owe 21 = .ok (.iconst (-1), 1) := by decide +kernel
theorem dX7_owe_22 : decode cX7_owe 22 = .ok (.ireturn, 1) := by decide +kernel
theorem dX7_owe_23 : decode cX7_owe 23 = .ok (.iload_n 3, 1) := by decide +kernel
theorem dX7_owe_24 : decode cX7_owe 24 = .ok (.bipush 9, 2) := by decide +kernel
theorem dX7_owe_26 : decode cX7_owe 26 = .ok (.invokestatic 53, 3) := by decide +kernel
theorem dX7_owe_29 : decode cX7_owe 29 = .ok (.ifCond .ne 6, 3) := by decide +kernel
theorem dX7_owe_32 : decode cX7_owe 32 = .ok (.bipush (-2), 2) := by decide +kernel
theorem dX7_owe_34 : decode cX7_owe 34 = .ok (.ireturn, 1) := by decide +kernel
theorem dX7_owe_35 : decode cX7_owe 35 = .ok (.aload_n 0, 1) := by decide +kernel
theorem dX7_owe_36 : decode cX7_owe 36 = .ok (.getfield 12, 3) := by decide +kernel
theorem dX7_owe_39 : decode cX7_owe 39 = .ok (.getfield 105, 3) := by decide +kernel
theorem dX7_owe_42 : decode cX7_owe 42 = .ok (.iload_n 1, 1) := by decide +kernel
theorem dX7_owe_43 : decode cX7_owe 43 = .ok (.aaload, 1) := by decide +kernel
theorem dX7_owe_44 : decode cX7_owe 44 = .ok (.iload_n 2, 1) := by decide +kernel
theorem dX7_owe_45 : decode cX7_owe 45 = .ok (.iaload, 1) := by decide +kernel
theorem dX7_owe_46 : decode cX7_owe 46 = .ok (.istore 4, 2) := by decide +kernel
theorem dX7_owe_48 : decode cX7_owe 48 = .ok (.aload_n 0, 1) := by decide +kernel
theorem dX7_owe_49 : decode cX7_owe 49 = .ok (.getfield 12, 3) := by decide +kernel
theorem dX7_owe_52 : decode cX7_owe 52 = .ok (.getfield 105, 3) := by decide +kernel
theorem dX7_owe_55 : decode cX7_owe 55 = .ok (.iload_n 1, 1) := by decide +kernel
theorem dX7_owe_56 : decode cX7_owe 56 = .ok (.aaload, 1) := by decide +kernel
theorem dX7_owe_57 : decode cX7_owe 57 = .ok (.iload_n 2, 1) := by decide +kernel
theorem dX7_owe_58 : decode cX7_owe 58 = .ok (.iload_n 3, 1) := by decide +kernel
theorem dX7_owe_59 : decode cX7_owe 59 = .ok (.iastore, 1) := by decide +kernel
theorem dX7_owe_60 : decode cX7_owe 60 = .ok (.iload 4, 2) := by decide +kernel
theorem dX7_owe_62 : decode cX7_owe 62 = .ok (.ireturn, 1) := by decide +kernel
set_option maxRecDepth 20000 in
theorem ggX7_owes_X7_isPerson : GoodIn wsX7_owes wsX7_isPerson := goodIn_r _ [6, 1, 7, 8, 9, 10, 11, 12, 13, 14, 15, 16, 17, 18, 19, 20] (by decide +kernel) (by decide +kernel)
set_option maxRecDepth 20000 in
theorem gX7_owes_X7_isPerson : GoodIn wsX7_owes (wsV RX7 86 RX7 yX7_isPerson wsX7_isPerson) := goodIn_app (goodIn_of _ (by decide +kernel)) ggX7_owes_X7_isPerson
theorem dX7_owes_0 : decode cX7_owes 0 = .ok (.aload_n 0, 1) := by decide +kernel
theorem dX7_owes_1 : decode cX7_owes 1 = .ok (.iload_n 1, 1) := by decide +kernel
theorem dX7_owes_2 : decode cX7_owes 2 = .ok (.invokevirtual 86, 3) := by decide +kernel
theorem dX7_owes_5 : decode cX7_owes 5 = .ok (.ifCond .eq 11, 3) := by decide +kernel
theorem dX7_owes_8 : decode cX7_owes 8 = .ok (.aload_n 0, 1) := by decide +kernel
theorem dX7_owes_9 : decode cX7_owes 9 = .ok (.iload_n 2, 1) := by decide +kernel
theorem dX7_owes_10 : decode cX7_owes 10 = .ok (.invokevirtual 86, 3) := by decide +kernel
theorem dX7_owes_13 : decode cX7_owes 13 = .ok (.ifCond .ne 5, 3) := by decide +kernel
theorem dX7_owes_16 : decode cX7_owes 16 = .ok (.iconst (-1), 1) := by decide +kernel
theorem dX7_owes_17 : decode cX7_owes 17 = .ok (.ireturn, 1) := by decide +kernel
theorem dX7_owes_18 : decode cX7_owes 18 = .ok (.aload_n 0, 1) := by decide +kernel
theorem dX7_owes_19 : decode cX7_owes 19 = .ok (.getfield 12, 3) := by decide +kernel
theorem dX7_owes_22 : decode cX7_owes 22 = .ok (.getfield 105, 3) := by decide +kernel
theorem dX7_owes_25 : decode cX7_owes 25 = .ok (.iload_n 1, 1) := by decide +kernel
theorem dX7_owes_26 : decode cX7_owes 26 = .ok (.aaload, 1) := by decide +kernel
theorem dX7_owes_27 : decode cX7_owes 27 = .ok (.iload_n 2, 1) := by decide +kernel
theorem dX7_owes_28 : decode cX7_owes 28 = .ok (.iaload, 1) := by decide +kernel
theorem dX7_owes_29 : decode cX7_owes 29 = .ok (.ireturn, 1) := by decide +kernel
set_option maxRecDepth 20000 in
theorem ggX7_weight_X7_isPerson : GoodIn wsX7_weight wsX7_isPerson := goodIn_r _ [6, 1, 31, 32, 33, 34, 35, 36, 37, 38, 39, 40, 41, 42, 43, 44] (by decide +kernel) (by decide +kernel)
set_option maxRecDepth 20000 in
theorem gX7_weight_X7_isPerson : GoodIn wsX7_weight (wsV RX7 86 RX7 yX7_isPerson wsX7_isPerson) := goodIn_app (goodIn_of _ (by decide +kernel)) ggX7_weight_X7_isPerson
set_option maxRecDepth 20000 in
theorem ggX7_weight_X5_weightOf : GoodIn wsX7_weight wsX5_weightOf := goodIn_r _ [11, 12, 13, 14, 15, 16, 17, 18, 19, 20, 21, 22, 23, 24, 25, 26, 27, 28, 29, 30, 38, 39, 40, 41, 42, 43, 44] (by decide +kernel) (by decide +kernel)
set_option maxRecDepth 20000 in
theorem gX7_weight_X5_weightOf : GoodIn wsX7_weight (wsV RX7 109 RX5 yX5_weightOf wsX5_weightOf) := goodIn_app (goodIn_of _ (by decide +kernel)) ggX7_weight_X5_weightOf
theorem dX7_weight_0 : decode cX7_weight 0 = .ok (.aload_n 0, 1) := by decide +kernel
theorem dX7_weight_1 : decode cX7_weight 1 = .ok (.iload_n 1, 1) := by decide +kernel
theorem dX7_weight_2 : decode cX7_weight 2 = .ok (.invokevirtual 86, 3) := by decide +kernel
theorem dX7_weight_5 : decode cX7_weight 5 = .ok (.ifCond .eq 11, 3) := by decide +kernel
theorem dX7_weight_8 : decode cX7_weight 8 = .ok (.aload_n 0, 1) := by decide +kernel
theorem dX7_weight_9 : decode cX7_weight 9 = .ok (.iload_n 2, 1) := by decide +kernel
theorem dX7_weight_10 : decode cX7_weight 10 = .ok (.invokevirtual 86, 3) := by decide +kernel
theorem dX7_weight_13 : decode cX7_weight 13 = .ok (.ifCond .ne 5, 3) := by decide +kernel
theorem dX7_weight_16 : decode cX7_weight 16 = .ok (.iconst (-1), 1) := by decide +kernel
theorem dX7_weight_17 : decode cX7_weight 17 = .ok (.ireturn, 1) := by decide +kernel
theorem dX7_weight_18 : decode cX7_weight 18 = .ok (.aload_n 0, 1) := by decide +kernel
theorem dX7_weight_19 : decode cX7_weight 19 = .ok (.getfield 12, 3) := by decide +kernel
theorem dX7_weight_22 : decode cX7_weight 22 = .ok (.iload_n 1, 1) := by decide +kernel
theorem dX7_weight_23 : decode cX7_weight 23 = .ok (.iload_n 2, 1) := by decide +kernel
theorem dX7_weight_24 : decode cX7_weight 24 = .ok (.invokevirtual 109, 3) := by decide +kernel
theorem dX7_weight_27 : decode cX7_weight 27 = .ok (.ireturn, 1) := by decide +kernel
set_option maxRecDepth 20000 in
theorem ggX7_bell_X7_isWithin : GoodIn wsX7_bell wsX7_isWithin := goodIn_r _ [5] (by decide +kernel) (by decide +kernel)
set_option maxRecDepth 20000 in
theorem gX7_bell_X7_isWithin : GoodIn wsX7_bell (va_wsS RX7 53 yX7_isWithin wsX7_isWithin) := goodIn_app (goodIn_of _ (by decide +kernel)) ggX7_bell_X7_isWithin
set_option maxRecDepth 20000 in
theorem ggX7_bell_X7_hasTown : GoodIn wsX7_bell wsX7_hasTown := goodIn_r _ [9, 1, 10, 11, 12, 13, 14, 15, 16, 17, 18, 19, 20, 21, 22, 23] (by decide +kernel) (by decide +kernel)
set_option maxRecDepth 20000 in
theorem gX7_bell_X7_hasTown : GoodIn wsX7_bell (wsV RX7 113 RX7 yX7_hasTown wsX7_hasTown) := goodIn_app (goodIn_of _ (by decide +kernel)) ggX7_bell_X7_hasTown
theorem dX7_bell_0 : decode cX7_bell 0 = .ok (.iload_n 1, 1) := by decide +kernel
theorem dX7_bell_1 : decode cX7_bell 1 = .ok (.bipush 9, 2) := by decide +kernel
theorem dX7_bell_3 : decode cX7_bell 3 = .ok (.invokestatic 53, 3) := by decide +kernel
theorem dX7_bell_6 : decode cX7_bell 6 = .ok (.ifCond .ne 6, 3) := by decide +kernel
theorem dX7_bell_9 : decode cX7_bell 9 = .ok (.bipush (-2), 2) := by decide +kernel
theorem dX7_bell_11 : decode cX7_bell 11 = .ok (.ireturn, 1) := by decide +kernel
theorem dX7_bell_12 : decode cX7_bell 12 = .ok (.aload_n 0, 1) := by decide +kernel
theorem dX7_bell_13 : decode cX7_bell 13 = .ok (.invokevirtual 113, 3) := by decide +kernel
theorem dX7_bell_16 : decode cX7_bell 16 = .ok (.ifCond .ne 6, 3) := by decide +kernel
theorem dX7_bell_19 : decode cX7_bell 19 = .ok (.bipush (-3), 2) := by decide +kernel
theorem dX7_bell_21 : decode cX7_bell 21 = .ok (.ireturn, 1) := by decide +kernel
theorem dX7_bell_22 : decode cX7_bell 22 = .ok (.aload_n 0, 1) := by decide +kernel
theorem dX7_bell_23 : decode cX7_bell 23 = .ok (.getfield 12, 3) := by decide +kernel
theorem dX7_bell_26 : decode cX7_bell 26 = .ok (.getfield 102, 3) := by decide +kernel
theorem dX7_bell_29 : decode cX7_bell 29 = .ok (.istore_n 2, 1) := by decide +kernel
theorem dX7_bell_30 : decode cX7_bell 30 = .ok (.aload_n 0, 1) := by decide +kernel
theorem dX7_bell_31 : decode cX7_bell 31 = .ok (.getfield 12, 3) := by decide +kernel
theorem dX7_bell_34 : decode cX7_bell 34 = .ok (.iload_n 1, 1) := by decide +kernel
theorem dX7_bell_35 : decode cX7_bell 35 = .ok (.putfield 102, 3) := by decide +kernel
theorem dX7_bell_38 : decode cX7_bell 38 = .ok (.iload_n 2, 1) := by decide +kernel
theorem dX7_bell_39 : decode cX7_bell 39 = .ok (.ireturn, 1) := by decide +kernel
set_option maxRecDepth 20000 in
theorem ggX7_lighter_X7_isPerson : GoodIn wsX7_lighter wsX7_isPerson := goodIn_r _ [6, 1, 36, 37, 38, 39, 40, 41, 42, 43, 44, 45, 46, 47, 48, 49] (by decide +kernel) (by decide +kernel)
set_option maxRecDepth 20000 in
theorem gX7_lighter_X7_isPerson : GoodIn wsX7_lighter (wsV RX7 86 RX7 yX7_isPerson wsX7_isPerson) := goodIn_app (goodIn_of _ (by decide +kernel)) ggX7_lighter_X7_isPerson
set_option maxRecDepth 20000 in
theorem ggX7_lighter_X5_lighterAmong : GoodIn wsX7_lighter wsX5_lighterAmong := goodIn_r _ [11, 12, 13, 14, 15, 10, 16, 17, 18, 19, 20, 21, 22, 23, 24, 25, 26, 27, 28, 29, 30, 31, 32, 33, 34, 35, 43, 44, 45, 46, 47, 48, 49] (by decide +kernel) (by decide +kernel)
set_option maxRecDepth 20000 in
theorem gX7_lighter_X5_lighterAmong : GoodIn wsX7_lighter (wsV RX7 116 RX5 yX5_lighterAmong wsX5_lighterAmong) := goodIn_app (goodIn_of _ (by decide +kernel)) ggX7_lighter_X5_lighterAmong
theorem dX7_lighter_0 : decode cX7_lighter 0 = .ok (.aload_n 0, 1) := by decide +kernel
theorem dX7_lighter_1 : decode cX7_lighter 1 = .ok (.iload_n 1, 1) := by decide +kernel
theorem dX7_lighter_2 : decode cX7_lighter 2 = .ok (.invokevirtual 86, 3) := by decide +kernel
theorem dX7_lighter_5 : decode cX7_lighter 5 = .ok (.ifCond .ne 5, 3) := by decide +kernel
theorem dX7_lighter_8 : decode cX7_lighter 8 = .ok (.iconst (-1), 1) := by decide +kernel
theorem dX7_lighter_9 : decode cX7_lighter 9 = .ok (.ireturn, 1) := by decide +kernel
theorem dX7_lighter_10 : decode cX7_lighter 10 = .ok (.aload_n 0, 1) := by decide +kernel
theorem dX7_lighter_11 : decode cX7_lighter 11 = .ok (.getfield 12, 3) := by decide +kernel
theorem dX7_lighter_14 : decode cX7_lighter 14 = .ok (.iload_n 1, 1) := by decide +kernel
theorem dX7_lighter_15 : decode cX7_lighter 15 = .ok (.iconst 0, 1) := by decide +kernel
theorem dX7_lighter_16 : decode cX7_lighter 16 = .ok (.invokevirtual 116, 3) := by decide +kernel
theorem dX7_lighter_19 : decode cX7_lighter 19 = .ok (.ireturn, 1) := by decide +kernel
set_option maxRecDepth 20000 in
theorem ggX7_dusks_X7_isWithin : GoodIn wsX7_dusks wsX7_isWithin := goodIn_r _ [5] (by decide +kernel) (by decide +kernel)
set_option maxRecDepth 20000 in
theorem gX7_dusks_X7_isWithin : GoodIn wsX7_dusks (va_wsS RX7 53 yX7_isWithin wsX7_isWithin) := goodIn_app (goodIn_of _ (by decide +kernel)) ggX7_dusks_X7_isWithin
set_option maxRecDepth 20000 in
theorem ggX7_dusks_X7_hasTown : GoodIn wsX7_dusks wsX7_hasTown := goodIn_r _ [9, 1, 68, 69, 70, 71, 72, 73, 74, 75, 76, 77, 78, 79, 80, 81] (by decide +kernel) (by decide +kernel)
set_option maxRecDepth 20000 in
theorem gX7_dusks_X7_hasTown : GoodIn wsX7_dusks (wsV RX7 113 RX7 yX7_hasTown wsX7_hasTown) := goodIn_app (goodIn_of _ (by decide +kernel)) ggX7_dusks_X7_hasTown
set_option maxRecDepth 20000 in
theorem ggX7_dusks_X5_passDusk : GoodIn wsX7_dusks wsX5_passDusk := goodIn_r _ [14, 15, 16, 17, 18, 19, 20, 21, 22, 23, 24, 25, 26, 27, 28, 29, 13, 30, 31, 32, 33, 34, 35, 36, 37, 38, 39, 40, 41, 42, 43, 44, 45, 46, 47, 48, 49, 50, 51, 52, 53, 54, 55, 56, 57, 58, 59, 60, 61, 62, 63, 75, 76, 77, 78, 79, 80, 81] (by decide +kernel) (by decide +kernel)
set_option maxRecDepth 20000 in
theorem gX7_dusks_X5_passDusk : GoodIn wsX7_dusks (wsV RX7 119 RX5 yX5_passDusk wsX5_passDusk) := goodIn_app (goodIn_of _ (by decide +kernel)) ggX7_dusks_X5_passDusk
set_option maxRecDepth 20000 in
theorem ggX7_dusks_X5_litLamps : GoodIn wsX7_dusks wsX5_litLamps := goodIn_r _ [67, 15, 31, 32, 33, 13, 34, 35, 36, 37, 38, 39, 40, 19, 41, 42, 43, 44, 45, 46, 47, 48, 49, 50, 51, 52, 53, 54, 55, 56, 75, 76, 77, 78, 79, 80, 81] (by decide +kernel) (by decide +kernel)
set_option maxRecDepth 20000 in
theorem gX7_dusks_X5_litLamps : GoodIn wsX7_dusks (wsV RX7 122 RX5 yX5_litLamps wsX5_litLamps) := goodIn_app (goodIn_of _ (by decide +kernel)) ggX7_dusks_X5_litLamps
theorem dX7_dusks_0 : decode cX7_dusks 0 = .ok (.iload_n 1, 1) := by decide +kernel
theorem dX7_dusks_1 : decode cX7_dusks 1 = .ok (.bipush 60, 2) := by decide +kernel
theorem dX7_dusks_3 : decode cX7_dusks 3 = .ok (.invokestatic 53, 3) := by decide +kernel
theorem dX7_dusks_6 : decode cX7_dusks 6 = .ok (.ifCond .ne 6, 3) := by decide +kernel
theorem dX7_dusks_9 : decode cX7_dusks 9 = .ok (.bipush (-2), 2) := by decide +kernel
theorem dX7_dusks_11 : decode cX7_dusks 11 = .ok (.ireturn, 1) := by decide +kernel
theorem dX7_dusks_12 : decode cX7_dusks 12 = .ok (.aload_n 0, 1) := by decide +kernel
theorem dX7_dusks_13 : decode cX7_dusks 13 = .ok (.invokevirtual 113, 3) := by decide +kernel
theorem dX7_dusks_16 : decode cX7_dusks 16 = .ok (.ifCond .ne 6, 3) := by decide +kernel
theorem dX7_dusks_19 : decode cX7_dusks 19 = .ok (.bipush (-3), 2) := by decide +kernel
theorem dX7_dusks_21 : decode cX7_dusks 21 = .ok (.ireturn, 1) := by decide +kernel
theorem dX7_dusks_22 : decode cX7_dusks 22 = .ok (.iconst 0, 1) := by decide +kernel
theorem dX7_dusks_23 : decode cX7_dusks 23 = .ok (.istore_n 2, 1) := by decide +kernel
theorem dX7_dusks_24 : decode cX7_dusks 24 = .ok (.iload_n 2, 1) := by decide +kernel
theorem dX7_dusks_25 : decode cX7_dusks 25 = .ok (.iload_n 1, 1) := by decide +kernel
theorem dX7_dusks_26 : decode cX7_dusks 26 = .ok (.if_icmp .ge 16, 3) := by decide +kernel
theorem dX7_dusks_29 : decode cX7_dusks 29 = .ok (.aload_n 0, 1) := by decide +kernel
theorem dX7_dusks_30 : decode cX7_dusks 30 = .ok (.getfield 12, 3) := by decide +kernel
theorem dX7_dusks_33 : decode cX7_dusks 33 = .ok (.invokevirtual 119, 3) := by decide +kernel
theorem dX7_dusks_36 : decode cX7_dusks 36 = .ok (.iinc 2 1, 3) := by decide +kernel
theorem dX7_dusks_39 : decode cX7_dusks 39 = .ok (.goto (-15), 3) := by decide +kernel
theorem dX7_dusks_42 : decode cX7_dusks 42 = .ok (.aload_n 0, 1) := by decide +kernel
theorem dX7_dusks_43 : decode cX7_dusks 43 = .ok (.getfield 12, 3) := by decide +kernel
theorem dX7_dusks_46 : decode cX7_dusks 46 = .ok (.invokevirtual 122, 3) := by decide +kernel
theorem dX7_dusks_49 : decode cX7_dusks 49 = .ok (.ireturn, 1) := by decide +kernel
set_option maxRecDepth 20000 in
theorem ggX7_later_X7_isPerson : GoodIn wsX7_later wsX7_isPerson := goodIn_r _ [7, 2, 70, 71, 72, 73, 74, 75, 76, 77, 78, 79, 80, 81, 82, 83] (by decide +kernel) (by decide +kernel)
set_option maxRecDepth 20000 in
theorem gX7_later_X7_isPerson : GoodIn wsX7_later (wsV RX7 86 RX7 yX7_isPerson wsX7_isPerson) := goodIn_app (goodIn_of _ (by decide +kernel)) ggX7_later_X7_isPerson
set_option maxRecDepth 20000 in
theorem ggX7_later_X7_isWithin : GoodIn wsX7_later wsX7_isWithin := goodIn_r _ [10] (by decide +kernel) (by decide +kernel)
set_option maxRecDepth 20000 in
theorem gX7_later_X7_isWithin : GoodIn wsX7_later (va_wsS RX7 53 yX7_isWithin wsX7_isWithin) := goodIn_app (goodIn_of _ (by decide +kernel)) ggX7_later_X7_isWithin
set_option maxRecDepth 20000 in
theorem ggX7_later_X5_becomeLike : GoodIn wsX7_later wsX5_becomeLike := goodIn_r _ [15, 16, 17, 18, 19, 77, 78, 79, 80, 81, 82, 83] (by decide +kernel) (by decide +kernel)
set_option maxRecDepth 20000 in
theorem gX7_later_X5_becomeLike : GoodIn wsX7_later (wsV RX7 75 RX5 yX5_becomeLike wsX5_becomeLike) := goodIn_app (goodIn_of _ (by decide +kernel)) ggX7_later_X5_becomeLike
set_option maxRecDepth 20000 in
theorem ggX7_later_X5_passDusk : GoodIn wsX7_later wsX5_passDusk := goodIn_r _ [23, 16, 24, 17, 25, 19, 26, 27, 28, 29, 30, 31, 32, 33, 34, 35, 14, 36, 37, 38, 39, 40, 41, 42, 43, 44, 45, 18, 46, 47, 48, 49, 50, 51, 52, 53, 54, 55, 56, 57, 58, 59, 60, 61, 62, 63, 64, 65, 66, 67, 68, 77, 78, 79, 80, 81, 82, 83] (by decide +kernel) (by decide +kernel)
set_option maxRecDepth 20000 in
theorem gX7_later_X5_passDusk : GoodIn wsX7_later (wsV RX7 119 RX5 yX5_passDusk wsX5_passDusk) := goodIn_app (goodIn_of _ (by decide +kernel)) ggX7_later_X5_passDusk
set_option maxRecDepth 20000 in
theorem ggX7_later_X5_lighterAmong : GoodIn wsX7_later wsX5_lighterAmong := goodIn_r _ [40, 16, 41, 42, 43, 14, 44, 45, 18, 19, 46, 47, 48, 49, 50, 51, 52, 53, 54, 55, 56, 57, 58, 59, 60, 61, 77, 78, 79, 80, 81, 82, 83] (by decide +kernel) (by decide +kernel)
set_option maxRecDepth 20000 in
theorem gX7_later_X5_lighterAmong : GoodIn wsX7_later (wsV RX7 116 RX5 yX5_lighterAmong wsX5_lighterAmong) := goodIn_app (goodIn_of _ (by decide +kernel)) ggX7_later_X5_lighterAmong
theorem dX7_later_0 : decode cX7_later 0 = .ok (.aload_n 0, 1) := by decide +kernel
theorem dX7_later_1 : decode cX7_later 1 = .ok (.iload_n 1, 1) := by decide +kernel
theorem dX7_later_2 : decode cX7_later 2 = .ok (.invokevirtual 86, 3) := by decide +kernel
theorem dX7_later_5 : decode cX7_later 5 = .ok (.ifCond .ne 5, 3) := by decide +kernel
theorem dX7_later_8 : decode cX7_later 8 = .ok (.iconst (-1), 1) := by decide +kernel
theorem dX7_later_9 : decode cX7_later 9 = .ok (.ireturn, 1) := by decide +kernel
theorem dX7_later_10 : decode cX7_later 10 = .ok (.iload_n 2, 1) := by decide +kernel
theorem dX7_later_11 : decode cX7_later 11 = .ok (.bipush 60, 2) := by decide +kernel
theorem dX7_later_13 : decode cX7_later 13 = .ok (.invokestatic 53, 3) := by decide +kernel
theorem dX7_later_16 : decode cX7_later 16 = .ok (.ifCond .ne 6, 3) := by decide +kernel
theorem dX7_later_19 : decode cX7_later 19 = .ok (.bipush (-2), 2) := by decide +kernel
theorem dX7_later_21 : decode cX7_later 21 = .ok (.ireturn, 1) := by decide +kernel
theorem dX7_later_22 : decode cX7_later 22 = .ok (.aload_n 0, 1) := by decide +kernel
theorem dX7_later_23 : decode cX7_later 23 = .ok (.getfield 18, 3) := by decide +kernel
theorem dX7_later_26 : decode cX7_later 26 = .ok (.aload_n 0, 1) := by decide +kernel
theorem dX7_later_27 : decode cX7_later 27 = .ok (.getfield 12, 3) := by decide +kernel
theorem dX7_later_30 : decode cX7_later 30 = .ok (.invokevirtual 75, 3) := by decide +kernel
theorem dX7_later_33 : decode cX7_later 33 = .ok (.iconst 0, 1) := by decide +kernel
theorem dX7_later_34 : decode cX7_later 34 = .ok (.istore_n 3, 1) := by decide +kernel
theorem dX7_later_35 : decode cX7_later 35 = .ok (.iload_n 3, 1) := by decide +kernel
theorem dX7_later_36 : decode cX7_later 36 = .ok (.iload_n 2, 1) := by decide +kernel
theorem dX7_later_37 : decode cX7_later 37 = .ok (.if_icmp .ge 16, 3) := by decide +kernel
theorem dX7_later_40 : decode cX7_later 40 = .ok (.aload_n 0, 1) := by decide +kernel
theorem dX7_later_41 : decode cX7_later 41 = .ok (.getfield 18, 3) := by decide +kernel
theorem dX7_later_44 : decode cX7_later 44 = .ok (.invokevirtual 119, 3) := by decide +kernel
theorem dX7_later_47 : decode cX7_later 47 = .ok (.iinc 3 1, 3) := by decide +kernel
theorem dX7_later_50 : decode cX7_later 50 = .ok (.goto (-15), 3) := by decide +kernel
theorem dX7_later_53 : decode cX7_later 53 = .ok (.aload_n 0, 1) := by decide +kernel
theorem dX7_later_54 : decode cX7_later 54 = .ok (.getfield 18, 3) := by decide +kernel
theorem dX7_later_57 : decode cX7_later 57 = .ok (.iload_n 1, 1) := by decide +kernel
theorem dX7_later_58 : decode cX7_later 58 = .ok (.iconst 0, 1) := by decide +kernel
theorem dX7_later_59 : decode cX7_later 59 = .ok (.invokevirtual 116, 3) := by decide +kernel
theorem dX7_later_62 : decode cX7_later 62 = .ok (.ireturn, 1) := by decide +kernel
set_option maxRecDepth 20000 in
theorem ggX7_dark_X7_hasTown : GoodIn wsX7_dark wsX7_hasTown := goodIn_r _ [7, 2, 70, 71, 72, 73, 74, 75, 76, 77, 78, 79, 80, 81, 82, 83] (by decide +kernel) (by decide +kernel)
set_option maxRecDepth 20000 in
theorem gX7_dark_X7_hasTown : GoodIn wsX7_dark (wsV RX7 113 RX7 yX7_hasTown wsX7_hasTown) := goodIn_app (goodIn_of _ (by decide +kernel)) ggX7_dark_X7_hasTown
set_option maxRecDepth 20000 in
theorem ggX7_dark_X5_becomeLike : GoodIn wsX7_dark wsX5_becomeLike := goodIn_r _ [12, 13, 14, 15, 16, 77, 78, 79, 80, 81, 82, 83] (by decide +kernel) (by decide +kernel)
set_option maxRecDepth 20000 in
theorem gX7_dark_X5_becomeLike : GoodIn wsX7_dark (wsV RX7 75 RX5 yX5_becomeLike wsX5_becomeLike) := goodIn_app (goodIn_of _ (by decide +kernel)) ggX7_dark_X5_becomeLike
set_option maxRecDepth 20000 in
theorem ggX7_dark_X5_litLamps : GoodIn wsX7_dark wsX5_litLamps := goodIn_r _ [20, 13, 21, 22, 23, 11, 24, 25, 26, 27, 28, 29, 15, 16, 30, 31, 32, 33, 34, 35, 36, 37, 38, 39, 40, 41, 42, 43, 44, 45, 77, 78, 79, 80, 81, 82, 83] (by decide +kernel) (by decide +kernel)
set_option maxRecDepth 20000 in
theorem gX7_dark_X5_litLamps : GoodIn wsX7_dark (wsV RX7 122 RX5 yX5_litLamps wsX5_litLamps) := goodIn_app (goodIn_of _ (by decide +kernel)) ggX7_dark_X5_litLamps
set_option maxRecDepth 20000 in
theorem ggX7_dark_X5_passDusk : GoodIn wsX7_dark wsX5_passDusk := goodIn_r _ [49, 13, 50, 14, 51, 16, 52, 53, 54, 55, 56, 57, 58, 59, 60, 61, 11, 62, 21, 22, 23, 24, 25, 26, 27, 28, 29, 15, 30, 31, 32, 33, 34, 35, 36, 37, 38, 39, 40, 41, 42, 43, 44, 45, 63, 64, 65, 66, 67, 68, 69, 77, 78, 79, 80, 81, 82, 83] (by decide +kernel) (by decide +kernel)
set_option maxRecDepth 20000 in
theorem gX7_dark_X5_passDusk : GoodIn wsX7_dark (wsV RX7 119 RX5 yX5_passDusk wsX5_passDusk) := goodIn_app (goodIn_of _ (by decide +kernel)) ggX7_dark_X5_passDusk
theorem dX7_dark_0 : decode cX7_dark 0 = .ok (.aload_n 0, 1) := by decide +kernel
theorem dX7_dark_1 : decode cX7_dark 1 = .ok (.invokevirtual 113, 3) := by decide +kernel
theorem dX7_dark_4 : decode cX7_dark 4 = .ok (.ifCond .ne 6, 3) := by decide +kernel
theorem dX7_dark_7 : decode cX7_dark 7 = .ok (.bipush (-3), 2) := by decide +kernel
theorem dX7_dark_9 : decode cX7_dark 9 = .ok (.ireturn, 1) := by decide +kernel
theorem dX7_dark_10 : decode cX7_dark 10 = .ok (.aload_n 0, 1) := by decide +kernel
theorem dX7_dark_11 : decode cX7_dark 11 = .ok (.getfield 18, 3) := by decide +kernel
theorem dX7_dark_14 : decode cX7_dark 14 = .ok (.aload_n 0, 1) := by decide +kernel
theorem dX7_dark_15 : decode cX7_dark 15 = .ok (.getfield 12, 3) := by decide +kernel
theorem dX7_dark_18 : decode cX7_dark 18 = .ok (.invokevirtual 75, 3) := by decide +kernel
theorem dX7_dark_21 : decode cX7_dark 21 = .ok (.iconst 0, 1) := by decide +kernel
theorem dX7_dark_22 : decode cX7_dark 22 = .ok (.istore_n 1, 1) := by decide +kernel
theorem dX7_dark_23 : decode cX7_dark 23 = .ok (.iload_n 1, 1) := by decide +kernel
theorem dX7_dark_24 : decode cX7_dark 24 = .ok (.bipush 60, 2) := by decide +kernel
theorem dX7_dark_26 : decode cX7_dark 26 = .ok (.if_icmp .gt 28, 3) := by decide +kernel
theorem dX7_dark_29 : decode cX7_dark 29 = .ok (.aload_n 0, 1) := by decide +kernel
theorem dX7_dark_30 : decode cX7_dark 30 = .ok (.getfield 18, 3) := by decide +kernel
theorem dX7_dark_33 : decode cX7_dark 33 = .ok (.invokevirtual 122, 3) := by decide +kernel
theorem dX7_dark_36 : decode cX7_dark 36 = .ok (.ifCond .ne 5, 3) := by decide +kernel
theorem dX7_dark_39 : decode cX7_dark 39 = .ok (.iload_n 1, 1) := by decide +kernel
theorem dX7_dark_40 : decode cX7_dark 40 = .ok (.ireturn, 1) := by decide +kernel
theorem dX7_dark_41 : decode cX7_dark 41 = .ok (.aload_n 0, 1) := by decide +kernel
theorem dX7_dark_42 : decode cX7_dark 42 = .ok (.getfield 18, 3) := by decide +kernel
theorem dX7_dark_45 : decode cX7_dark 45 = .ok (.invokevirtual 119, 3) := by decide +kernel
theorem dX7_dark_48 : decode cX7_dark 48 = .ok (.iinc 1 1, 3) := by decide +kernel
theorem dX7_dark_51 : decode cX7_dark 51 = .ok (.goto (-28), 3) := by decide +kernel
theorem dX7_dark_54 : decode cX7_dark 54 = .ok (.bipush (-9), 2) := by decide +kernel
theorem dX7_dark_56 : decode cX7_dark 56 = .ok (.ireturn, 1) := by decide +kernel
set_option maxRecDepth 20000 in
theorem ggX7_ring_X7_isPerson : GoodIn wsX7_ring wsX7_isPerson := goodIn_r _ [6, 1, 36, 37, 38, 39, 40, 41, 42, 43, 44, 45, 46, 47, 48, 49] (by decide +kernel) (by decide +kernel)
set_option maxRecDepth 20000 in
theorem gX7_ring_X7_isPerson : GoodIn wsX7_ring (wsV RX7 86 RX7 yX7_isPerson wsX7_isPerson) := goodIn_app (goodIn_of _ (by decide +kernel)) ggX7_ring_X7_isPerson
set_option maxRecDepth 20000 in
theorem ggX7_ring_X5_lighterAmong : GoodIn wsX7_ring wsX5_lighterAmong := goodIn_r _ [11, 12, 13, 14, 15, 10, 16, 17, 18, 19, 20, 21, 22, 23, 24, 25, 26, 27, 28, 29, 30, 31, 32, 33, 34, 35, 43, 44, 45, 46, 47, 48, 49] (by decide +kernel) (by decide +kernel)
set_option maxRecDepth 20000 in
theorem gX7_ring_X5_lighterAmong : GoodIn wsX7_ring (wsV RX7 116 RX5 yX5_lighterAmong wsX5_lighterAmong) := goodIn_app (goodIn_of _ (by decide +kernel)) ggX7_ring_X5_lighterAmong
theorem dX7_ring_0 : decode cX7_ring 0 = .ok (.aload_n 0, 1) := by decide +kernel
theorem dX7_ring_1 : decode cX7_ring 1 = .ok (.iload_n 1, 1) := by decide +kernel
theorem dX7_ring_2 : decode cX7_ring 2 = .ok (.invokevirtual 86, 3) := by decide +kernel
theorem dX7_ring_5 : decode cX7_ring 5 = .ok (.ifCond .ne 5, 3) := by decide +kernel
theorem dX7_ring_8 : decode cX7_ring 8 = .ok (.iconst (-1), 1) := by decide +kernel
theorem dX7_ring_9 : decode cX7_ring 9 = .ok (.ireturn, 1) := by decide +kernel
theorem dX7_ring_10 : decode cX7_ring 10 = .ok (.iload_n 1, 1) := by decide +kernel
theorem dX7_ring_11 : decode cX7_ring 11 = .ok (.istore_n 2, 1) := by decide +kernel
theorem dX7_ring_12 : decode cX7_ring 12 = .ok (.iconst 0, 1) := by decide +kernel
theorem dX7_ring_13 : decode cX7_ring 13 = .ok (.istore_n 3, 1) := by decide +kernel
theorem dX7_ring_14 : decode cX7_ring 14 = .ok (.iload_n 3, 1) := by decide +kernel
theorem dX7_ring_15 : decode cX7_ring 15 = .ok (.aload_n 0, 1) := by decide +kernel
theorem dX7_ring_16 : decode cX7_ring 16 = .ok (.getfield 12, 3) := by decide +kernel
theorem dX7_ring_19 : decode cX7_ring 19 = .ok (.getfield 83, 3) := by decide +kernel
theorem dX7_ring_22 : decode cX7_ring 22 = .ok (.if_icmp .ge 28, 3) := by decide +kernel
theorem dX7_ring_25 : decode cX7_ring 25 = .ok (.aload_n 0, 1) := by decide +kernel
theorem dX7_ring_26 : decode cX7_ring 26 = .ok (.getfield 12, 3) := by decide +kernel
theorem dX7_ring_29 : decode cX7_ring 29 = .ok (.iload_n 2, 1) := by decide +kernel
theorem dX7_ring_30 : decode cX7_ring 30 = .ok (.iconst 0, 1) := by decide +kernel
theorem dX7_ring_31 : decode cX7_ring 31 = .ok (.invokevirtual 116, 3) := by decide +kernel
theorem dX7_ring_34 : decode cX7_ring 34 = .ok (.istore_n 2, 1) := by decide +kernel
theorem dX7_ring_35 : decode cX7_ring 35 = .ok (.iload_n 2, 1) := by decide +kernel
theorem dX7_ring_36 : decode cX7_ring 36 = .ok (.bipush (-9), 2) := by decide +kernel
theorem dX7_ring_38 : decode cX7_ring 38 = .ok (.if_icmp .ne 6, 3) := by decide +kernel
theorem dX7_ring_41 : decode cX7_ring 41 = .ok (.bipush (-9), 2) := by decide +kernel
theorem dX7_ring_43 : decode cX7_ring 43 = .ok (.ireturn, 1) := by decide +kernel
theorem dX7_ring_44 : decode cX7_ring 44 = .ok (.iinc 3 1, 3) := by decide +kernel
theorem dX7_ring_47 : decode cX7_ring 47 = .ok (.goto (-33), 3) := by decide +kernel
theorem dX7_ring_50 : decode cX7_ring 50 = .ok (.iconst 0, 1) := by decide +kernel
theorem dX7_ring_51 : decode cX7_ring 51 = .ok (.istore_n 3, 1) := by decide +kernel
theorem dX7_ring_52 : decode cX7_ring 52 = .ok (.iconst 0, 1) := by decide +kernel
theorem dX7_ring_53 : decode cX7_ring 53 = .ok (.istore 4, 2) := by decide +kernel
theorem dX7_ring_55 : decode cX7_ring 55 = .ok (.iload 4, 2) := by decide +kernel
theorem dX7_ring_57 : decode cX7_ring 57 = .ok (.aload_n 0, 1) := by decide +kernel
theorem dX7_ring_58 : decode cX7_ring 58 = .ok (.getfield 12, 3) := by decide +kernel
theorem dX7_ring_61 : decode cX7_ring 61 = .ok (.getfield 83, 3) := by decide +kernel
theorem dX7_ring_64 : decode cX7_ring 64 = .ok (.if_icmp .ge 34, 3) := by decide +kernel
theorem dX7_ring_67 : decode cX7_ring 67 = .ok (.iload_n 3, 1) := by decide +kernel
theorem dX7_ring_68 : decode cX7_ring 68 = .ok (.iconst 1, 1) := by decide +kernel
theorem dX7_ring_69 : decode cX7_ring 69 = .ok (.iload_n 2, 1) := by decide +kernel
theorem dX7_ring_70 : decode cX7_ring 70 = .ok (.ishl, 1) := by decide +kernel
theorem dX7_ring_71 : decode cX7_ring 71 = .ok (.ior, 1) := by decide +kernel
theorem dX7_ring_72 : decode cX7_ring 72 = .ok (.istore_n 3, 1) := by decide +kernel
theorem dX7_ring_73 : decode cX7_ring 73 = .ok (.aload_n 0, 1) := by decide +kernel
theorem dX7_ring_74 : decode cX7_ring 74 = .ok (.getfield 12, 3) := by decide +kernel
theorem dX7_ring_77 : decode cX7_ring 77 = .ok (.iload_n 2, 1) := by decide +kernel
theorem dX7_ring_78 : decode cX7_ring 78 = .ok (.iconst 0, 1) := by decide +kernel
theorem dX7_ring_79 : decode cX7_ring 79 = .ok (.invokevirtual 116, 3) := by decide +kernel
theorem dX7_ring_82 : decode cX7_ring 82 = .ok (.istore_n 2, 1) := by decide +kernel
theorem dX7_ring_83 : decode cX7_ring 83 = .ok (.iload_n 2, 1) := by decide +kernel
theorem dX7_ring_84 : decode cX7_ring 84 = .ok (.bipush (-9), 2) := by decide +kernel
theorem dX7_ring_86 : decode cX7_ring 86 = .ok (.if_icmp .ne 6, 3) := by decide +kernel
theorem dX7_ring_89 : decode cX7_ring 89 = .ok (.bipush (-9), 2) := by decide +kernel
theorem dX7_ring_91 : decode cX7_ring 91 = .ok (.ireturn, 1) := by decide +kernel
theorem dX7_ring_92 : decode cX7_ring 92 = .ok (.iinc 4 1, 3) := by decide +kernel
theorem dX7_ring_95 : decode cX7_ring 95 = .ok (.goto (-40), 3) := by decide +kernel
theorem dX7_ring_98 : decode cX7_ring 98 = .ok (.iload_n 3, 1) := by decide +kernel
theorem dX7_ring_99 : decode cX7_ring 99 = .ok (.ireturn, 1) := by decide +kernel
set_option maxRecDepth 20000 in
theorem ggX7_walk_X7_isPerson : GoodIn wsX7_walk wsX7_isPerson := goodIn_r _ [7, 8, 101, 102, 103, 104, 105, 106, 107, 108, 109, 110, 111, 112, 113, 114] (by decide +kernel) (by decide +kernel)
set_option maxRecDepth 20000 in
theorem gX7_walk_X7_isPerson : GoodIn wsX7_walk (wsV RX7 86 RX7 yX7_isPerson wsX7_isPerson) := goodIn_app (goodIn_of _ (by decide +kernel)) ggX7_walk_X7_isPerson
set_option maxRecDepth 20000 in
theorem ggX7_walk_X7_isSheet : GoodIn wsX7_walk wsX7_isSheet := goodIn_r _ [11] (by decide +kernel) (by decide +kernel)
set_option maxRecDepth 20000 in
theorem gX7_walk_X7_isSheet : GoodIn wsX7_walk (va_wsS RX7 49 yX7_isSheet wsX7_isSheet) := goodIn_app (goodIn_of _ (by decide +kernel)) ggX7_walk_X7_isSheet
set_option maxRecDepth 20000 in
theorem ggX7_walk_X7_isWithin : GoodIn wsX7_walk wsX7_isWithin := goodIn_r _ [14] (by decide +kernel) (by decide +kernel)
set_option maxRecDepth 20000 in
theorem gX7_walk_X7_isWithin : GoodIn wsX7_walk (va_wsS RX7 53 yX7_isWithin wsX7_isWithin) := goodIn_app (goodIn_of _ (by decide +kernel)) ggX7_walk_X7_isWithin
set_option maxRecDepth 20000 in
theorem ggX7_walk_X4_isOfLane : GoodIn wsX7_walk wsX4_isOfLane := goodIn_r _ [19, 20, 21, 22, 23, 18, 24, 25, 115, 116, 117] (by decide +kernel) (by decide +kernel)
set_option maxRecDepth 20000 in
theorem gX7_walk_X4_isOfLane : GoodIn wsX7_walk (wsV RX7 57 RX4 yX4_isOfLane wsX4_isOfLane) := goodIn_app (goodIn_of _ (by decide +kernel)) ggX7_walk_X4_isOfLane
set_option maxRecDepth 20000 in
theorem ggX7_walk_X7_faulted : GoodIn wsX7_walk wsX7_faulted := goodIn_r _ [29, 1, 101, 102, 103, 104, 105, 106, 107] (by decide +kernel) (by decide +kernel)
set_option maxRecDepth 20000 in
theorem gX7_walk_X7_faulted : GoodIn wsX7_walk (wsV RX7 60 RX7 yX7_faulted wsX7_faulted) := goodIn_app (goodIn_of _ (by decide +kernel)) ggX7_walk_X7_faulted
set_option maxRecDepth 20000 in
theorem ggX7_walk_X4_hasNothing : GoodIn wsX7_walk wsX4_hasNothing := goodIn_r _ [24, 25, 115, 116, 117] (by decide +kernel) (by decide +kernel)
set_option maxRecDepth 20000 in
theorem gX7_walk_X4_hasNothing : GoodIn wsX7_walk (wsV RX7 64 RX4 yX4_hasNothing wsX4_hasNothing) := goodIn_app (goodIn_of _ (by decide +kernel)) ggX7_walk_X4_hasNothing
set_option maxRecDepth 20000 in
theorem ggX7_walk_X4_hasCells : GoodIn wsX7_walk wsX4_hasCells := goodIn_r _ [34, 25, 115, 116, 117] (by decide +kernel) (by decide +kernel)
set_option maxRecDepth 20000 in
theorem gX7_walk_X4_hasCells : GoodIn wsX7_walk (wsV RX7 68 RX4 yX4_hasCells wsX4_hasCells) := goodIn_app (goodIn_of _ (by decide +kernel)) ggX7_walk_X4_hasCells
set_option maxRecDepth 20000 in
theorem ggX7_walk_X4_valueAt : GoodIn wsX7_walk wsX4_valueAt := goodIn_r _ [38, 39, 40, 41, 42, 18, 43, 25, 115, 116, 117] (by decide +kernel) (by decide +kernel)
set_option maxRecDepth 20000 in
theorem gX7_walk_X4_valueAt : GoodIn wsX7_walk (wsV RX7 126 RX4 yX4_valueAt wsX4_valueAt) := goodIn_app (goodIn_of _ (by decide +kernel)) ggX7_walk_X4_valueAt
set_option maxRecDepth 20000 in
theorem ggX7_walk_X7_stepsAlong : GoodIn wsX7_walk wsX7_stepsAlong := goodIn_r _ [46, 47, 48, 49, 50, 35, 36, 37, 18, 38, 39, 40, 41, 42, 43, 25, 115, 116, 117] (by decide +kernel) (by decide +kernel)
set_option maxRecDepth 20000 in
theorem gX7_walk_X7_stepsAlong : GoodIn wsX7_walk (va_wsS RX7 129 yX7_stepsAlong wsX7_stepsAlong) := goodIn_app (goodIn_of _ (by decide +kernel)) ggX7_walk_X7_stepsAlong
set_option maxRecDepth 20000 in
theorem ggX7_walk_X7_lampsLeft : GoodIn wsX7_walk wsX7_lampsLeft := goodIn_r _ [54, 8, 55, 56, 57, 58, 59, 60, 61, 62, 63, 64, 65, 66, 67, 68, 69, 70, 71, 72, 73, 74, 75, 76, 77, 78, 79, 80, 81, 82, 83, 84, 85, 86, 87, 88, 89, 90, 91, 92, 93, 94, 95, 96, 35, 36, 37, 18, 38, 39, 40, 41, 42, 43, 25, 101, 102, 103, 104, 105, 106, 107, 108, 109, 110, 111, 112, 113, 114, 115, 116, 117] (by decide +kernel) (by decide +kernel)
set_option maxRecDepth 20000 in
theorem gX7_walk_X7_lampsLeft : GoodIn wsX7_walk (wsV RX7 133 RX7 yX7_lampsLeft wsX7_lampsLeft) := goodIn_app (goodIn_of _ (by decide +kernel)) ggX7_walk_X7_lampsLeft
set_option maxRecDepth 20000 in
theorem ggX7_walk_X7_doorsTillRoundIsDone : GoodIn wsX7_walk wsX7_doorsTillRoundIsDone := goodIn_r _ [100, 8, 55, 56, 57, 58, 59, 60, 61, 62, 63, 64, 65, 66, 67, 68, 69, 70, 71, 72, 73, 74, 75, 76, 77, 78, 79, 80, 81, 82, 83, 84, 85, 86, 87, 88, 89, 90, 91, 92, 93, 94, 95, 96, 35, 36, 37, 18, 38, 39, 40, 41, 42, 43, 25, 101, 102, 103, 104, 105, 106, 107, 108, 109, 110, 111, 112, 113, 114, 115, 116, 117] (by decide +kernel) (by decide +kernel)
set_option maxRecDepth 20000 in
theorem gX7_walk_X7_doorsTillRoundIsDone : GoodIn wsX7_walk (wsV RX7 136 RX7 yX7_doorsTillRoundIsDone wsX7_doorsTillRoundIsDone) := goodIn_app (goodIn_of _ (by decide +kernel)) ggX7_walk_X7_doorsTillRoundIsDone
theorem dX7_walk_0 : decode cX7_walk 0 = .ok (.aload_n 0, 1) := by decide +kernel
theorem dX7_walk_1 : decode cX7_walk 1 = .ok (.iconst 0, 1) := by decide +kernel
theorem dX7_walk_2 : decode cX7_walk 2 = .ok (.putfield 45, 3) := by decide +kernel
theorem dX7_walk_5 : decode cX7_walk 5 = .ok (.aload_n 0, 1) := by decide +kernel
theorem dX7_walk_6 : decode cX7_walk 6 = .ok (.iload_n 1, 1) := by decide +kernel
theorem dX7_walk_7 : decode cX7_walk 7 = .ok (.invokevirtual 86, 3) := by decide +kernel
theorem dX7_walk_10 : decode cX7_walk 10 = .ok (.ifCond .eq 10, 3) := by decide +kernel
theorem dX7_walk_13 : decode cX7_walk 13 = .ok (.iload_n 2, 1) := by decide +kernel
theorem dX7_walk_14 : decode cX7_walk 14 = .ok (.invokestatic 49, 3) := by decide +kernel
theorem dX7_walk_17 : decode cX7_walk 17 = .ok (.ifCond .ne 5, 3) := by decide +kernel
theorem dX7_walk_20 : decode cX7_walk 20 = .ok (.iconst (-1), 1) := by decide +kernel
theorem dX7_walk_21 : decode cX7_walk 21 = .ok (.ireturn, 1) := by decide +kernel
theorem dX7_walk_22 : decode cX7_walk 22 = .ok (.iload_n 3, 1) := by decide +kernel
theorem dX7_walk_23 : decode cX7_walk 23 = .ok (.iconst 2, 1) := by decide +kernel
theorem dX7_walk_24 : decode cX7_walk 24 = .ok (.invokestatic 53, 3) := by decide +kernel
theorem dX7_walk_27 : decode cX7_walk 27 = .ok (.ifCond .eq 22, 3) := by decide +kernel
theorem dX7_walk_30 : decode cX7_walk 30 = .ok (.iload 5, 2) := by decide +kernel
theorem dX7_walk_32 : decode cX7_walk 32 = .ok (.bipush 20, 2) := by decide +kernel
theorem dX7_walk_34 : decode cX7_walk 34 = .ok (.invokestatic 53, 3) := by decide +kernel
theorem dX7_walk_37 : decode cX7_walk 37 = .ok (.ifCond .eq 12, 3) := by decide +kernel
theorem dX7_walk_40 : decode cX7_walk 40 = .ok (.iload 6, 2) := by decide +kernel
theorem dX7_walk_42 : decode cX7_walk 42 = .ok (.iconst 2, 1) := by decide +kernel
theorem dX7_walk_43 : decode cX7_walk 43 = .ok (.invokestatic 53, 3) := by decide +kernel
theorem dX7_walk_46 : decode cX7_walk 46 = .ok (.ifCond .ne 6, 3) := by decide +kernel
theorem dX7_walk_49 : decode cX7_walk 49 = .ok (.bipush (-2), 2) := by decide +kernel
theorem dX7_walk_51 : decode cX7_walk 51 = .ok (.ireturn, 1) := by decide +kernel
theorem dX7_walk_52 : decode cX7_walk 52 = .ok (.aload_n 0, 1) := by decide +kernel
theorem dX7_walk_53 : decode cX7_walk 53 = .ok (.getfield 41, 3) := by decide +kernel
theorem dX7_walk_56 : decode cX7_walk 56 = .ok (.iload_n 2, 1) := by decide +kernel
theorem dX7_walk_57 : decode cX7_walk 57 = .ok (.aaload, 1) := by decide +kernel
theorem dX7_walk_58 : decode cX7_walk 58 = .ok (.astore 7, 2) := by decide +kernel
theorem dX7_walk_60 : decode cX7_walk 60 = .ok (.aload 7, 2) := by decide +kernel
theorem dX7_walk_62 : decode cX7_walk 62 = .ok (.iload_n 3, 1) := by decide +kernel
theorem dX7_walk_63 : decode cX7_walk 63 = .ok (.invokevirtual 57, 3) := by decide +kernel
theorem dX7_walk_66 : decode cX7_walk 66 = .ok (.ifCond .ne 9, 3) := by decide +kernel
theorem dX7_walk_69 : decode cX7_walk 69 = .ok (.aload_n 0, 1) := by decide +kernel
theorem dX7_walk_70 : decode cX7_walk 70 = .ok (.iconst 2, 1) := by decide +kernel
theorem dX7_walk_71 : decode cX7_walk 71 = .ok (.invokevirtual 60, 3) := by decide +kernel
theorem dX7_walk_74 : decode cX7_walk 74 = .ok (.ireturn, 1) := by decide +kernel
theorem dX7_walk_75 : decode cX7_walk 75 = .ok (.aload 7, 2) := by decide +kernel
theorem dX7_walk_77 : decode cX7_walk 77 = .ok (.invokevirtual 64, 3) := by decide +kernel
theorem dX7_walk_80 : decode cX7_walk 80 = .ok (.ifCond .eq 9, 3) := by decide +kernel
theorem dX7_walk_83 : decode cX7_walk 83 = .ok (.aload_n 0, 1) := by decide +kernel
theorem dX7_walk_84 : decode cX7_walk 84 = .ok (.iconst 1, 1) := by decide +kernel
theorem dX7_walk_85 : decode cX7_walk 85 = .ok (.invokevirtual 60, 3) := by decide +kernel
theorem dX7_walk_88 : decode cX7_walk 88 = .ok (.ireturn, 1) := by decide +kernel
theorem dX7_walk_89 : decode cX7_walk 89 = .ok (.aload 7, 2) := by decide +kernel
theorem dX7_walk_91 : decode cX7_walk 91 = .ok (.iload 4, 2) := by decide +kernel
theorem dX7_walk_93 : decode cX7_walk 93 = .ok (.iload 5, 2) := by decide +kernel
theorem dX7_walk_95 : decode cX7_walk 95 = .ok (.invokevirtual 68, 3) := by decide +kernel
theorem dX7_walk_98 : decode cX7_walk 98 = .ok (.ifCond .ne 9, 3) := by decide +kernel
theorem dX7_walk_101 : decode cX7_walk 101 = .ok (.aload_n 0, 1) := by decide +kernel
theorem dX7_walk_102 : decode cX7_walk 102 = .ok (.iconst 3, 1) := by decide +kernel
theorem dX7_walk_103 : decode cX7_walk 103 = .ok (.invokevirtual 60, 3) := by decide +kernel
theorem dX7_walk_106 : decode cX7_walk 106 = .ok (.ireturn, 1) := by decide +kernel
theorem dX7_walk_107 : decode cX7_walk 107 = .ok (.iconst 0, 1) := by decide +kernel
theorem dX7_walk_108 : decode cX7_walk 108 = .ok (.istore 8, 2) := by decide +kernel
theorem dX7_walk_110 : decode cX7_walk 110 = .ok (.iload 8, 2) := by decide +kernel
theorem dX7_walk_112 : decode cX7_walk 112 = .ok (.iload 5, 2) := by decide +kernel
theorem dX7_walk_114 : decode cX7_walk 114 = .ok (.if_icmp .ge 28, 3) := by decide +kernel
theorem dX7_walk_117 : decode cX7_walk 117 = .ok (.aload_n 0, 1) := by decide +kernel
theorem dX7_walk_118 : decode cX7_walk 118 = .ok (.aload 7, 2) := by decide +kernel
theorem dX7_walk_120 : decode cX7_walk 120 = .ok (.iload 4, 2) := by decide +kernel
theorem dX7_walk_122 : decode cX7_walk 122 = .ok (.iload 8, 2) := by decide +kernel
theorem dX7_walk_124 : decode cX7_walk 124 = .ok (.iadd, 1) := by decide +kernel
theorem dX7_walk_125 : decode cX7_walk 125 = .ok (.invokevirtual 126, 3) := by decide +kernel
theorem dX7_walk_128 : decode cX7_walk 128 = .ok (.invokevirtual 86, 3) := by decide +kernel
theorem dX7_walk_131 : decode cX7_walk 131 = .ok (.ifCond .ne 5, 3) := by decide +kernel
theorem dX7_walk_134 : decode cX7_walk 134 = .ok (.iconst (-1), 1) := by decide +kernel
theorem dX7_walk_135 : decode cX7_walk 135 = .ok (.ireturn, 1) := by decide +kernel
theorem dX7_walk_136 : decode cX7_walk 136 = .ok (.iinc 8 1, 3) := by decide +kernel
theorem dX7_walk_139 : decode cX7_walk 139 = .ok (.goto (-29), 3) := by decide +kernel
theorem dX7_walk_142 : decode cX7_walk 142 = .ok (.iload 6, 2) := by decide +kernel
theorem dX7_walk_144 : decode cX7_walk 144 = .ok (.ifCond .ne 14, 3) := by decide +kernel
theorem dX7_walk_147 : decode cX7_walk 147 = .ok (.iload_n 1, 1) := by decide +kernel
theorem dX7_walk_148 : decode cX7_walk 148 = .ok (.aload 7, 2) := by decide +kernel
theorem dX7_walk_150 : decode cX7_walk 150 = .ok (.iload 4, 2) := by decide +kernel
theorem dX7_walk_152 : decode cX7_walk 152 = .ok (.iload 5, 2) := by decide +kernel
theorem dX7_walk_154 : decode cX7_walk 154 = .ok (.invokestatic 129, 3) := by decide +kernel
theorem dX7_walk_157 : decode cX7_walk 157 = .ok (.ireturn, 1) := by decide +kernel
theorem dX7_walk_158 : decode cX7_walk 158 = .ok (.iload 6, 2) := by decide +kernel
theorem dX7_walk_160 : decode cX7_walk 160 = .ok (.iconst 1, 1) := by decide +kernel
theorem dX7_walk_161 : decode cX7_walk 161 = .ok (.if_icmp .ne 15, 3) := by decide +kernel
theorem dX7_walk_164 : decode cX7_walk 164 = .ok (.aload_n 0, 1) := by decide +kernel
theorem dX7_walk_165 : decode cX7_walk 165 = .ok (.iload_n 1, 1) := by decide +kernel
theorem dX7_walk_166 : decode cX7_walk 166 = .ok (.aload 7, 2) := by decide +kernel
theorem dX7_walk_168 : decode cX7_walk 168 = .ok (.iload 4, 2) := by decide +kernel
theorem dX7_walk_170 : decode cX7_walk 170 = .ok (.iload 5, 2) := by decide +kernel
theorem dX7_walk_172 : decode cX7_walk 172 = .ok (.invokevirtual 133, 3) := by decide +kernel
theorem dX7_walk_175 : decode cX7_walk 175 = .ok (.ireturn, 1) := by decide +kernel
theorem dX7_walk_176 : decode cX7_walk 176 = .ok (.aload_n 0, 1) := by decide +kernel
theorem dX7_walk_177 : decode cX7_walk 177 = .ok (.iload_n 1, 1) := by decide +kernel
theorem dX7_walk_178 : decode cX7_walk 178 = .ok (.aload 7, 2) := by decide +kernel
theorem dX7_walk_180 : decode cX7_walk 180 = .ok (.iload 4, 2) := by decide +kernel
theorem dX7_walk_182 : decode cX7_walk 182 = .ok (.iload 5, 2) := by decide +kernel
theorem dX7_walk_184 : decode cX7_walk 184 = .ok (.invokevirtual 136, 3) := by decide +kernel
theorem dX7_walk_187 : decode cX7_walk 187 = .ok (.ireturn, 1) := by decide +kernel
set_option maxRecDepth 20000 in
theorem ggX7_stepsAlong_X4_valueAt : GoodIn wsX7_stepsAlong wsX4_valueAt := goodIn_r _ [9, 10, 11, 12, 13, 8, 14, 15, 16, 17, 18] (by decide +kernel) (by decide +kernel)
set_option maxRecDepth 20000 in
theorem gX7_stepsAlong_X4_valueAt : GoodIn wsX7_stepsAlong (wsV RX7 126 RX4 yX4_valueAt wsX4_valueAt) := goodIn_app (goodIn_of _ (by decide +kernel)) ggX7_stepsAlong_X4_valueAt
theorem dX7_stepsAlong_0 : decode cX7_stepsAlong 0 = .ok (.iconst 0, 1) := by decide +kernel
theorem dX7_stepsAlong_1 : decode cX7_stepsAlong 1 = .ok (.istore 4, 2) := by decide +kernel
theorem dX7_stepsAlong_3 : decode cX7_stepsAlong 3 = .ok (.iload_n 0, 1) := by decide +kernel
theorem dX7_stepsAlong_4 : decode cX7_stepsAlong 4 = .ok (.istore 5, 2) := by decide +kernel
theorem dX7_stepsAlong_6 : decode cX7_stepsAlong 6 = .ok (.iconst 0, 1) := by decide +kernel
theorem dX7_stepsAlong_7 : decode cX7_stepsAlong 7 = .ok (.istore 6, 2) := by decide +kernel
theorem dX7_stepsAlong_9 : decode cX7_stepsAlong 9 = .ok (.iload 6, 2) := by decide +kernel
theorem dX7_stepsAlong_11 : decode cX7_stepsAlong 11 = .ok (.iload_n 3, 1) := by decide +kernel
theorem dX7_stepsAlong_12 : decode cX7_stepsAlong 12 = .ok (.if_icmp .ge 36, 3) := by decide +kernel
theorem dX7_stepsAlong_15 : decode cX7_stepsAlong 15 = .ok (.aload_n 1, 1) := by decide +kernel
theorem dX7_stepsAlong_16 : decode cX7_stepsAlong 16 = .ok (.iload_n 2, 1) := by decide +kernel
theorem dX7_stepsAlong_17 : decode cX7_stepsAlong 17 = .ok (.iload 6, 2) := by decide +kernel
theorem dX7_stepsAlong_19 : decode cX7_stepsAlong 19 = .ok (.iadd, 1) := by decide +kernel
theorem dX7_stepsAlong_20 : decode cX7_stepsAlong 20 = .ok (.invokevirtual 126, 3) := by decide +kernel
theorem dX7_stepsAlong_23 : decode cX7_stepsAlong 23 = .ok (.istore 7, 2) := by decide +kernel
theorem dX7_stepsAlong_25 : decode cX7_stepsAlong 25 = .ok (.iload 4, 2) := by decide +kernel
theorem dX7_stepsAlong_27 : decode cX7_stepsAlong 27 = .ok (.iload 7, 2) := by decide +kernel
theorem dX7_stepsAlong_29 : decode cX7_stepsAlong 29 = .ok (.iload 5, 2) := by decide +kernel
theorem dX7_stepsAlong_31 : decode cX7_stepsAlong 31 = .ok (.isub, 1) := by decide +kernel
theorem dX7_stepsAlong_32 : decode cX7_stepsAlong 32 = .ok (.invokestatic 139, 3) := by decide +kernel
theorem dX7_stepsAlong_35 : decode cX7_stepsAlong 35 = .ok (.iadd, 1) := by decide +kernel
theorem dX7_stepsAlong_36 : decode cX7_stepsAlong 36 = .ok (.istore 4, 2) := by decide +kernel
theorem dX7_stepsAlong_38 : decode cX7_stepsAlong 38 = .ok (.iload 7, 2) := by decide +kernel
theorem dX7_stepsAlong_40 : decode cX7_stepsAlong 40 = .ok (.istore 5, 2) := by decide +kernel
theorem dX7_stepsAlong_42 : decode cX7_stepsAlong 42 = .ok (.iinc 6 1, 3) := by decide +kernel
theorem dX7_stepsAlong_45 : decode cX7_stepsAlong 45 = .ok (.goto (-36), 3) := by decide +kernel
theorem dX7_stepsAlong_48 : decode cX7_stepsAlong 48 = .ok (.iload 4, 2) := by decide +kernel
theorem dX7_stepsAlong_50 : decode cX7_stepsAlong 50 = .ok (.ireturn, 1) := by decide +kernel
set_option maxRecDepth 20000 in
theorem ggX7_lampsLeft_X5_roundOf : GoodIn wsX7_lampsLeft wsX5_roundOf := goodIn_r _ [6, 7, 8, 9, 5, 10, 11, 12, 13, 14, 15, 16, 17, 18, 19, 20, 21, 22, 23, 24, 25, 26, 27, 28, 29, 30, 31, 32, 33, 34, 35, 36, 37, 38, 39, 40, 41, 42, 43, 62, 63, 64, 65, 66, 67, 68] (by decide +kernel) (by decide +kernel)
set_option maxRecDepth 20000 in
theorem gX7_lampsLeft_X5_roundOf : GoodIn wsX7_lampsLeft (wsV RX7 96 RX5 yX5_roundOf wsX5_roundOf) := goodIn_app (goodIn_of _ (by decide +kernel)) ggX7_lampsLeft_X5_roundOf
set_option maxRecDepth 20000 in
theorem ggX7_lampsLeft_X4_valueAt : GoodIn wsX7_lampsLeft wsX4_valueAt := goodIn_r _ [48, 49, 50, 51, 52, 47, 53, 54, 69, 70, 71] (by decide +kernel) (by decide +kernel)
set_option maxRecDepth 20000 in
theorem gX7_lampsLeft_X4_valueAt : GoodIn wsX7_lampsLeft (wsV RX7 126 RX4 yX4_valueAt wsX4_valueAt) := goodIn_app (goodIn_of _ (by decide +kernel)) ggX7_lampsLeft_X4_valueAt
theorem dX7_lampsLeft_0 : decode cX7_lampsLeft 0 = .ok (.aload_n 0, 1) := by decide +kernel
theorem dX7_lampsLeft_1 : decode cX7_lampsLeft 1 = .ok (.getfield 12, 3) := by decide +kernel
theorem dX7_lampsLeft_4 : decode cX7_lampsLeft 4 = .ok (.iload_n 1, 1) := by decide +kernel
theorem dX7_lampsLeft_5 : decode cX7_lampsLeft 5 = .ok (.invokevirtual 96, 3) := by decide +kernel
theorem dX7_lampsLeft_8 : decode cX7_lampsLeft 8 = .ok (.istore 5, 2) := by decide +kernel
theorem dX7_lampsLeft_10 : decode cX7_lampsLeft 10 = .ok (.iconst 0, 1) := by decide +kernel
theorem dX7_lampsLeft_11 : decode cX7_lampsLeft 11 = .ok (.istore 6, 2) := by decide +kernel
theorem dX7_lampsLeft_13 : decode cX7_lampsLeft 13 = .ok (.iload 6, 2) := by decide +kernel
theorem dX7_lampsLeft_15 : decode cX7_lampsLeft 15 = .ok (.iload 4, 2) := by decide +kernel
theorem dX7_lampsLeft_17 : decode cX7_lampsLeft 17 = .ok (.if_icmp .ge 26, 3) := by decide +kernel
theorem dX7_lampsLeft_20 : decode cX7_lampsLeft 20 = .ok (.iload 5, 2) := by decide +kernel
theorem dX7_lampsLeft_22 : decode cX7_lampsLeft 22 = .ok (.iconst 1, 1) := by decide +kernel
theorem dX7_lampsLeft_23 : decode cX7_lampsLeft 23 = .ok (.aload_n 2, 1) := by decide +kernel
theorem dX7_lampsLeft_24 : decode cX7_lampsLeft 24 = .ok (.iload_n 3, 1) := by decide +kernel
theorem dX7_lampsLeft_25 : decode cX7_lampsLeft 25 = .ok (.iload 6, 2) := by decide +kernel
theorem dX7_lampsLeft_27 : decode cX7_lampsLeft 27 = .ok (.iadd, 1) := by decide +kernel
theorem dX7_lampsLeft_28 : decode cX7_lampsLeft 28 = .ok (.invokevirtual 126, 3) := by decide +kernel
theorem dX7_lampsLeft_31 : decode cX7_lampsLeft 31 = .ok (.ishl, 1) := by decide +kernel
theorem dX7_lampsLeft_32 : decode cX7_lampsLeft 32 = .ok (.iconst (-1), 1) := by decide +kernel
theorem dX7_lampsLeft_33 : decode cX7_lampsLeft 33 = .ok (.ixor, 1) := by decide +kernel
theorem dX7_lampsLeft_34 : decode cX7_lampsLeft 34 = .ok (.iand, 1) := by decide +kernel
theorem dX7_lampsLeft_35 : decode cX7_lampsLeft 35 = .ok (.istore 5, 2) := by decide +kernel
theorem dX7_lampsLeft_37 : decode cX7_lampsLeft 37 = .ok (.iinc 6 1, 3) := by decide +kernel
theorem dX7_lampsLeft_40 : decode cX7_lampsLeft 40 = .ok (.goto (-27), 3) := by decide +kernel
theorem dX7_lampsLeft_43 : decode cX7_lampsLeft 43 = .ok (.iload 5, 2) := by decide +kernel
theorem dX7_lampsLeft_45 : decode cX7_lampsLeft 45 = .ok (.ireturn, 1) := by decide +kernel
set_option maxRecDepth 20000 in
theorem ggX7_doorsTillRoundIsDone_X5_roundOf : GoodIn wsX7_doorsTillRoundIsDone wsX5_roundOf := goodIn_r _ [6, 7, 8, 9, 5, 10, 11, 12, 13, 14, 15, 16, 17, 18, 19, 20, 21, 22, 23, 24, 25, 26, 27, 28, 29, 30, 31, 32, 33, 34, 35, 36, 37, 38, 39, 40, 41, 42, 43, 62, 63, 64, 65, 66, 67, 68] (by decide +kernel) (by decide +kernel)
set_option maxRecDepth 20000 in
theorem gX7_doorsTillRoundIsDone_X5_roundOf : GoodIn wsX7_doorsTillRoundIsDone (wsV RX7 96 RX5 yX5_roundOf wsX5_roundOf) := goodIn_app (goodIn_of _ (by decide +kernel)) ggX7_doorsTillRoundIsDone_X5_roundOf
set_option maxRecDepth 20000 in
theorem ggX7_doorsTillRoundIsDone_X4_valueAt : GoodIn wsX7_doorsTillRoundIsDone wsX4_valueAt := goodIn_r _ [48, 49, 50, 51, 52, 47, 53, 54, 69, 70, 71] (by decide +kernel) (by decide +kernel)
set_option maxRecDepth 20000 in
theorem gX7_doorsTillRoundIsDone_X4_valueAt : GoodIn wsX7_doorsTillRoundIsDone (wsV RX7 126 RX4 yX4_valueAt wsX4_valueAt) := goodIn_app (goodIn_of _ (by decide +kernel)) ggX7_doorsTillRoundIsDone_X4_valueAt
theorem dX7_doorsTillRoundIsDone_0 : decode cX7_doorsTillRoundIsDone 0 = .ok (.aload_n 0, 1) := by decide +kernel
theorem dX7_doorsTillRoundIsDone_1 : decode cX7_doorsTillRoundIsDone 1 = .ok (.getfield 12, 3) := by decide +kernel
theorem dX7_doorsTillRoundIsDone_4 : decode cX7_doorsTillRoundIsDone 4 = .ok (.iload_n 1, 1) := by decide +kernel
theorem dX7_doorsTillRoundIsDone_5 : decode cX7_doorsTillRoundIsDone 5 = .ok (.invokevirtual 96, 3) := by decide +kernel
theorem dX7_doorsTillRoundIsDone_8 : decode cX7_doorsTillRoundIsDone 8 = .ok (.istore 5, 2) := by decide +kernel
theorem dX7_doorsTillRoundIsDone_10 : decode cX7_doorsTillRoundIsDone 10 = .ok (.iconst 0, 1) := by decide +kernel
theorem dX7_doorsTillRoundIsDone_11 : decode cX7_doorsTillRoundIsDone 11 = .ok (.istore 6, 2) := by decide +kernel
theorem dX7_doorsTillRoundIsDone_13 : decode cX7_doorsTillRoundIsDone 13 = .ok (.iload 6, 2) := by decide +kernel
theorem dX7_doorsTillRoundIsDone_15 : decode cX7_doorsTillRoundIsDone 15 = .ok (.iload 4, 2) := by decide +kernel
theorem dX7_doorsTillRoundIsDone_17 : decode cX7_doorsTillRoundIsDone 17 = .ok (.if_icmp .ge 34, 3) := by decide +kernel
theorem dX7_doorsTillRoundIsDone_20 : decode cX7_doorsTillRoundIsDone 20 = .ok (.iload 5, 2) := by decide +kernel
theorem dX7_doorsTillRoundIsDone_22 : decode cX7_doorsTillRoundIsDone 22 = .ok (.ifCond .ne 6, 3) := by decide +kernel
theorem dX7_doorsTillRoundIsDone_25 : decode cX7_doorsTillRoundIsDone 25 = .ok (.iload 6, 2) := by decide +kernel
theorem dX7_doorsTillRoundIsDone_27 : decode cX7_doorsTillRoundIsDone 27 = .ok (.ireturn, 1) := by decide +kernel
theorem dX7_doorsTillRoundIsDone_28 : decode cX7_doorsTillRoundIsDone 28 = .ok (.iload 5, 2) := by decide +kernel
theorem dX7_doorsTillRoundIsDone_30 : decode cX7_doorsTillRoundIsDone 30 = .ok (.iconst 1, 1) := by decide +kernel
theorem dX7_doorsTillRoundIsDone_31 : decode cX7_doorsTillRoundIsDone 31 = .ok (.aload_n 2, 1) := by decide +kernel
theorem dX7_doorsTillRoundIsDone_32 : decode cX7_doorsTillRoundIsDone 32 = .ok (.iload_n 3, 1) := by decide +kernel
theorem dX7_doorsTillRoundIsDone_33 : decode cX7_doorsTillRoundIsDone 33 = .ok (.iload 6, 2) := by decide +kernel
theorem dX7_doorsTillRoundIsDone_35 : decode cX7_doorsTillRoundIsDone 35 = .ok (.iadd, 1) := by decide +kernel
theorem dX7_doorsTillRoundIsDone_36 : decode cX7_doorsTillRoundIsDone 36 = .ok (.invokevirtual 126, 3) := by decide +kernel
theorem dX7_doorsTillRoundIsDone_39 : decode cX7_doorsTillRoundIsDone 39 = .ok (.ishl, 1) := by decide +kernel
theorem dX7_doorsTillRoundIsDone_40 : decode cX7_doorsTillRoundIsDone 40 = .ok (.iconst (-1), 1) := by decide +kernel
theorem dX7_doorsTillRoundIsDone_41 : decode cX7_doorsTillRoundIsDone 41 = .ok (.ixor, 1) := by decide +kernel
theorem dX7_doorsTillRoundIsDone_42 : decode cX7_doorsTillRoundIsDone 42 = .ok (.iand, 1) := by decide +kernel
theorem dX7_doorsTillRoundIsDone_43 : decode cX7_doorsTillRoundIsDone 43 = .ok (.istore 5, 2) := by decide +kernel
theorem dX7_doorsTillRoundIsDone_45 : decode cX7_doorsTillRoundIsDone 45 = .ok (.iinc 6 1, 3) := by decide +kernel
theorem dX7_doorsTillRoundIsDone_48 : decode cX7_doorsTillRoundIsDone 48 = .ok (.goto (-35), 3) := by decide +kernel
theorem dX7_doorsTillRoundIsDone_51 : decode cX7_doorsTillRoundIsDone 51 = .ok (.iload 5, 2) := by decide +kernel
theorem dX7_doorsTillRoundIsDone_53 : decode cX7_doorsTillRoundIsDone 53 = .ok (.ifCond .ne 8, 3) := by decide +kernel
theorem dX7_doorsTillRoundIsDone_56 : decode cX7_doorsTillRoundIsDone 56 = .ok (.iload 4, 2) := by decide +kernel
theorem dX7_doorsTillRoundIsDone_58 : decode cX7_doorsTillRoundIsDone 58 = .ok (.goto 5, 3) := by decide +kernel
theorem dX7_doorsTillRoundIsDone_61 : decode cX7_doorsTillRoundIsDone 61 = .ok (.bipush (-9), 2) := by decide +kernel
theorem dX7_doorsTillRoundIsDone_63 : decode cX7_doorsTillRoundIsDone 63 = .ok (.ireturn, 1) := by decide +kernel
set_option maxRecDepth 20000 in
theorem ggX7_free_X7_isPerson : GoodIn wsX7_free wsX7_isPerson := goodIn_r _ [7, 2, 46, 47, 48, 49, 50, 51, 52, 53, 54, 55, 56, 57, 58, 59] (by decide +kernel) (by decide +kernel)
set_option maxRecDepth 20000 in
theorem gX7_free_X7_isPerson : GoodIn wsX7_free (wsV RX7 86 RX7 yX7_isPerson wsX7_isPerson) := goodIn_app (goodIn_of _ (by decide +kernel)) ggX7_free_X7_isPerson
set_option maxRecDepth 20000 in
theorem ggX7_free_X5_becomeLike : GoodIn wsX7_free wsX5_becomeLike := goodIn_r _ [12, 13, 14, 15, 16, 53, 54, 55, 56, 57, 58, 59] (by decide +kernel) (by decide +kernel)
set_option maxRecDepth 20000 in
theorem gX7_free_X5_becomeLike : GoodIn wsX7_free (wsV RX7 75 RX5 yX5_becomeLike wsX5_becomeLike) := goodIn_app (goodIn_of _ (by decide +kernel)) ggX7_free_X5_becomeLike
set_option maxRecDepth 20000 in
theorem ggX7_free_X5_payTillLighterOfNone : GoodIn wsX7_free wsX5_payTillLighterOfNone := goodIn_r _ [20, 13, 16, 21, 22, 23, 11, 24, 25, 26, 27, 28, 29, 15, 30, 31, 32, 33, 34, 35, 36, 37, 38, 39, 40, 41, 42, 43, 44, 45, 53, 54, 55, 56, 57, 58, 59] (by decide +kernel) (by decide +kernel)
set_option maxRecDepth 20000 in
theorem gX7_free_X5_payTillLighterOfNone : GoodIn wsX7_free (wsV RX7 144 RX5 yX5_payTillLighterOfNone wsX5_payTillLighterOfNone) := goodIn_app (goodIn_of _ (by decide +kernel)) ggX7_free_X5_payTillLighterOfNone
theorem dX7_free_0 : decode cX7_free 0 = .ok (.aload_n 0, 1) := by decide +kernel
theorem dX7_free_1 : decode cX7_free 1 = .ok (.iload_n 1, 1) := by decide +kernel
theorem dX7_free_2 : decode cX7_free 2 = .ok (.invokevirtual 86, 3) := by decide +kernel
theorem dX7_free_5 : decode cX7_free 5 = .ok (.ifCond .ne 5, 3) := by decide +kernel
theorem dX7_free_8 : decode cX7_free 8 = .ok (.iconst (-1), 1) := by decide +kernel
theorem dX7_free_9 : decode cX7_free 9 = .ok (.ireturn, 1) := by decide +kernel
theorem dX7_free_10 : decode cX7_free 10 = .ok (.aload_n 0, 1) := by decide +kernel
theorem dX7_free_11 : decode cX7_free 11 = .ok (.getfield 18, 3) := by decide +kernel
theorem dX7_free_14 : decode cX7_free 14 = .ok (.aload_n 0, 1) := by decide +kernel
theorem dX7_free_15 : decode cX7_free 15 = .ok (.getfield 12, 3) := by decide +kernel
theorem dX7_free_18 : decode cX7_free 18 = .ok (.invokevirtual 75, 3) := by decide +kernel
theorem dX7_free_21 : decode cX7_free 21 = .ok (.aload_n 0, 1) := by decide +kernel
theorem dX7_free_22 : decode cX7_free 22 = .ok (.getfield 18, 3) := by decide +kernel
theorem dX7_free_25 : decode cX7_free 25 = .ok (.iload_n 1, 1) := by decide +kernel
theorem dX7_free_26 : decode cX7_free 26 = .ok (.invokevirtual 144, 3) := by decide +kernel
theorem dX7_free_29 : decode cX7_free 29 = .ok (.ireturn, 1) := by decide +kernel
set_option maxRecDepth 20000 in
theorem ggX7_haste_X7_hasTown : GoodIn wsX7_haste wsX7_hasTown := goodIn_r _ [10, 1, 64, 65, 66, 67, 68, 69, 70, 71, 72, 73, 74, 75, 76, 77] (by decide +kernel) (by decide +kernel)
set_option maxRecDepth 20000 in
theorem gX7_haste_X7_hasTown : GoodIn wsX7_haste (wsV RX7 113 RX7 yX7_hasTown wsX7_hasTown) := goodIn_app (goodIn_of _ (by decide +kernel)) ggX7_haste_X7_hasTown
set_option maxRecDepth 20000 in
theorem ggX7_haste_X5_stepsOf : GoodIn wsX7_haste wsX5_stepsOf := goodIn_r _ [15, 16, 17, 18, 14, 19, 20, 21, 22, 23, 24, 25, 26, 27, 28, 29, 30, 31, 32, 33, 34, 35, 36, 37, 38, 39, 40, 41, 42, 43, 44, 45, 46, 47, 48, 49, 50, 51, 52, 53, 54, 55, 56, 57, 58, 59, 60, 3, 4, 5, 61, 62, 63, 71, 72, 73, 74, 75, 76, 77] (by decide +kernel) (by decide +kernel)
set_option maxRecDepth 20000 in
theorem gX7_haste_X5_stepsOf : GoodIn wsX7_haste (wsV RX7 99 RX5 yX5_stepsOf wsX5_stepsOf) := goodIn_app (goodIn_of _ (by decide +kernel)) ggX7_haste_X5_stepsOf
theorem dX7_haste_0 : decode cX7_haste 0 = .ok (.aload_n 0, 1) := by decide +kernel
theorem dX7_haste_1 : decode cX7_haste 1 = .ok (.invokevirtual 113, 3) := by decide +kernel
theorem dX7_haste_4 : decode cX7_haste 4 = .ok (.ifCond .ne 6, 3) := by decide +kernel
theorem dX7_haste_7 : decode cX7_haste 7 = .ok (.bipush (-3), 2) := by decide +kernel
theorem dX7_haste_9 : decode cX7_haste 9 = .ok (.ireturn, 1) := by decide +kernel
theorem dX7_haste_10 : decode cX7_haste 10 = .ok (.iconst 0, 1) := by decide +kernel
theorem dX7_haste_11 : decode cX7_haste 11 = .ok (.istore_n 1, 1) := by decide +kernel
theorem dX7_haste_12 : decode cX7_haste 12 = .ok (.iconst 0, 1) := by decide +kernel
theorem dX7_haste_13 : decode cX7_haste 13 = .ok (.istore_n 2, 1) := by decide +kernel
theorem dX7_haste_14 : decode cX7_haste 14 = .ok (.iload_n 2, 1) := by decide +kernel
theorem dX7_haste_15 : decode cX7_haste 15 = .ok (.aload_n 0, 1) := by decide +kernel
theorem dX7_haste_16 : decode cX7_haste 16 = .ok (.getfield 12, 3) := by decide +kernel
theorem dX7_haste_19 : decode cX7_haste 19 = .ok (.getfield 83, 3) := by decide +kernel
theorem dX7_haste_22 : decode cX7_haste 22 = .ok (.if_icmp .ge 22, 3) := by decide +kernel
theorem dX7_haste_25 : decode cX7_haste 25 = .ok (.iload_n 1, 1) := by decide +kernel
theorem dX7_haste_26 : decode cX7_haste 26 = .ok (.aload_n 0, 1) := by decide +kernel
theorem dX7_haste_27 : decode cX7_haste 27 = .ok (.getfield 12, 3) := by decide +kernel
theorem dX7_haste_30 : decode cX7_haste 30 = .ok (.iload_n 2, 1) := by decide +kernel
theorem dX7_haste_31 : decode cX7_haste 31 = .ok (.invokevirtual 99, 3) := by decide +kernel
theorem dX7_haste_34 : decode cX7_haste 34 = .ok (.invokestatic 147, 3) := by decide +kernel
theorem dX7_haste_37 : decode cX7_haste 37 = .ok (.istore_n 1, 1) := by decide +kernel
theorem dX7_haste_38 : decode cX7_haste 38 = .ok (.iinc 2 1, 3) := by decide +kernel
theorem dX7_haste_41 : decode cX7_haste 41 = .ok (.goto (-27), 3) := by decide +kernel
theorem dX7_haste_44 : decode cX7_haste 44 = .ok (.iload_n 1, 1) := by decide +kernel
theorem dX7_haste_45 : decode cX7_haste 45 = .ok (.ireturn, 1) := by decide +kernel
set_option maxRecDepth 20000 in
theorem ggX7_reading_X7_isPerson : GoodIn wsX7_reading wsX7_isPerson := goodIn_r _ [6, 7, 20, 21, 22, 23, 24, 25, 26, 27, 28, 29, 30, 31, 32, 33] (by decide +kernel) (by decide +kernel)
set_option maxRecDepth 20000 in
theorem gX7_reading_X7_isPerson : GoodIn wsX7_reading (wsV RX7 86 RX7 yX7_isPerson wsX7_isPerson) := goodIn_app (goodIn_of _ (by decide +kernel)) ggX7_reading_X7_isPerson
set_option maxRecDepth 20000 in
theorem ggX7_reading_X7_isWithin : GoodIn wsX7_reading wsX7_isWithin := goodIn_r _ [10] (by decide +kernel) (by decide +kernel)
set_option maxRecDepth 20000 in
theorem gX7_reading_X7_isWithin : GoodIn wsX7_reading (va_wsS RX7 53 yX7_isWithin wsX7_isWithin) := goodIn_app (goodIn_of _ (by decide +kernel)) ggX7_reading_X7_isWithin
set_option maxRecDepth 20000 in
theorem ggX7_reading_X2_add : GoodIn wsX7_reading wsX2_add := goodIn_r _ [15, 16, 17, 18, 19, 34, 35, 36, 37] (by decide +kernel) (by decide +kernel)
set_option maxRecDepth 20000 in
theorem gX7_reading_X2_add : GoodIn wsX7_reading (wsV RX7 150 RX2 yX2_add wsX2_add) := goodIn_app (goodIn_of _ (by decide +kernel)) ggX7_reading_X2_add
theorem dX7_reading_0 : decode cX7_reading 0 = .ok (.aload_n 0, 1) := by decide +kernel
theorem dX7_reading_1 : decode cX7_reading 1 = .ok (.iload_n 2, 1) := by decide +kernel
theorem dX7_reading_2 : decode cX7_reading 2 = .ok (.invokevirtual 86, 3) := by decide +kernel
theorem dX7_reading_5 : decode cX7_reading 5 = .ok (.ifCond .eq 17, 3) := by decide +kernel
theorem dX7_reading_8 : decode cX7_reading 8 = .ok (.aload_n 0, 1) := by decide +kernel
theorem dX7_reading_9 : decode cX7_reading 9 = .ok (.iload_n 3, 1) := by decide +kernel
theorem dX7_reading_10 : decode cX7_reading 10 = .ok (.invokevirtual 86, 3) := by decide +kernel
theorem dX7_reading_13 : decode cX7_reading 13 = .ok (.ifCond .ne 11, 3) := by decide +kernel
theorem dX7_reading_16 : decode cX7_reading 16 = .ok (.iload_n 3, 1) := by decide +kernel
theorem dX7_reading_17 : decode cX7_reading 17 = .ok (.bipush (-9), 2) := by decide +kernel
theorem dX7_reading_19 : decode cX7_reading 19 = .ok (.if_icmp .eq 5, 3) := by decide +kernel
theorem dX7_reading_22 : decode cX7_reading 22 = .ok (.iconst (-1), 1) := by decide +kernel
theorem dX7_reading_23 : decode cX7_reading 23 = .ok (.ireturn, 1) := by decide +kernel
theorem dX7_reading_24 : decode cX7_reading 24 = .ok (.iload_n 1, 1) := by decide +kernel
theorem dX7_reading_25 : decode cX7_reading 25 = .ok (.bipush 10, 2) := by decide +kernel
theorem dX7_reading_27 : decode cX7_reading 27 = .ok (.invokestatic 53, 3) := by decide +kernel
theorem dX7_reading_30 : decode cX7_reading 30 = .ok (.ifCond .ne 6, 3) := by decide +kernel
theorem dX7_reading_33 : decode cX7_reading 33 = .ok (.bipush (-2), 2) := by decide +kernel
theorem dX7_reading_35 : decode cX7_reading 35 = .ok (.ireturn, 1) := by decide +kernel
theorem dX7_reading_36 : decode cX7_reading 36 = .ok (.aload_n 0, 1) := by decide +kernel
theorem dX7_reading_37 : decode cX7_reading 37 = .ok (.getfield 34, 3) := by decide +kernel
theorem dX7_reading_40 : decode cX7_reading 40 = .ok (.iload_n 1, 1) := by decide +kernel
theorem dX7_reading_41 : decode cX7_reading 41 = .ok (.iload_n 2, 1) := by decide +kernel
theorem dX7_reading_42 : decode cX7_reading 42 = .ok (.iload_n 3, 1) := by decide +kernel
theorem dX7_reading_43 : decode cX7_reading 43 = .ok (.invokevirtual 150, 3) := by decide +kernel
theorem dX7_reading_46 : decode cX7_reading 46 = .ok (.ireturn, 1) := by decide +kernel
set_option maxRecDepth 20000 in
theorem ggX7_back_X7_isWithin : GoodIn wsX7_back wsX7_isWithin := goodIn_r _ [5] (by decide +kernel) (by decide +kernel)
set_option maxRecDepth 20000 in
theorem gX7_back_X7_isWithin : GoodIn wsX7_back (va_wsS RX7 53 yX7_isWithin wsX7_isWithin) := goodIn_app (goodIn_of _ (by decide +kernel)) ggX7_back_X7_isWithin
set_option maxRecDepth 20000 in
theorem ggX7_back_X2_keepFirst : GoodIn wsX7_back wsX2_keepFirst := goodIn_r _ [10, 11, 19, 20, 21, 22] (by decide +kernel) (by decide +kernel)
set_option maxRecDepth 20000 in
theorem gX7_back_X2_keepFirst : GoodIn wsX7_back (wsV RX7 79 RX2 yX2_keepFirst wsX2_keepFirst) := goodIn_app (goodIn_of _ (by decide +kernel)) ggX7_back_X2_keepFirst
theorem dX7_back_0 : decode cX7_back 0 = .ok (.iload_n 1, 1) := by decide +kernel
theorem dX7_back_1 : decode cX7_back 1 = .ok (.aload_n 0, 1) := by decide +kernel
theorem dX7_back_2 : decode cX7_back 2 = .ok (.getfield 34, 3) := by decide +kernel
theorem dX7_back_5 : decode cX7_back 5 = .ok (.getfield 154, 3) := by decide +kernel
theorem dX7_back_8 : decode cX7_back 8 = .ok (.invokestatic 53, 3) := by decide +kernel
theorem dX7_back_11 : decode cX7_back 11 = .ok (.ifCond .ne 6, 3) := by decide +kernel
theorem dX7_back_14 : decode cX7_back 14 = .ok (.bipush (-2), 2) := by decide +kernel
theorem dX7_back_16 : decode cX7_back 16 = .ok (.ireturn, 1) := by decide +kernel
theorem dX7_back_17 : decode cX7_back 17 = .ok (.aload_n 0, 1) := by decide +kernel
theorem dX7_back_18 : decode cX7_back 18 = .ok (.getfield 34, 3) := by decide +kernel
theorem dX7_back_21 : decode cX7_back 21 = .ok (.aload_n 0, 1) := by decide +kernel
theorem dX7_back_22 : decode cX7_back 22 = .ok (.getfield 34, 3) := by decide +kernel
theorem dX7_back_25 : decode cX7_back 25 = .ok (.getfield 154, 3) := by decide +kernel
theorem dX7_back_28 : decode cX7_back 28 = .ok (.iload_n 1, 1) := by decide +kernel
theorem dX7_back_29 : decode cX7_back 29 = .ok (.isub, 1) := by decide +kernel
theorem dX7_back_30 : decode cX7_back 30 = .ok (.invokevirtual 79, 3) := by decide +kernel
theorem dX7_back_33 : decode cX7_back 33 = .ok (.aload_n 0, 1) := by decide +kernel
theorem dX7_back_34 : decode cX7_back 34 = .ok (.getfield 34, 3) := by decide +kernel
theorem dX7_back_37 : decode cX7_back 37 = .ok (.getfield 154, 3) := by decide +kernel
theorem dX7_back_40 : decode cX7_back 40 = .ok (.ireturn, 1) := by decide +kernel
set_option maxRecDepth 20000 in
theorem ggX7_debts_X7_isPerson : GoodIn wsX7_debts wsX7_isPerson := goodIn_r _ [8, 2, 86, 87, 88, 89, 90, 91, 92, 93, 94, 95, 96, 97, 98, 99] (by decide +kernel) (by decide +kernel)
set_option maxRecDepth 20000 in
theorem gX7_debts_X7_isPerson : GoodIn wsX7_debts (wsV RX7 86 RX7 yX7_isPerson wsX7_isPerson) := goodIn_app (goodIn_of _ (by decide +kernel)) ggX7_debts_X7_isPerson
set_option maxRecDepth 20000 in
theorem ggX7_debts_X5_becomeLike : GoodIn wsX7_debts wsX5_becomeLike := goodIn_r _ [13, 14, 15, 16, 17, 93, 94, 95, 96, 97, 98, 99] (by decide +kernel) (by decide +kernel)
set_option maxRecDepth 20000 in
theorem gX7_debts_X5_becomeLike : GoodIn wsX7_debts (wsV RX7 75 RX5 yX5_becomeLike wsX5_becomeLike) := goodIn_app (goodIn_of _ (by decide +kernel)) ggX7_debts_X5_becomeLike
set_option maxRecDepth 20000 in
theorem ggX7_debts_X2_areSo : GoodIn wsX7_debts wsX2_areSo := goodIn_r _ [22, 23, 24, 25, 21, 26, 27, 28, 29, 30, 31, 32, 33, 34, 35, 12, 36, 14, 37, 15, 38, 17, 39, 40, 41, 42, 43, 44, 45, 46, 47, 48, 49, 50, 51, 52, 53, 54, 55, 16, 56, 57, 58, 59, 60, 61, 62, 63, 64, 65, 66, 67, 68, 69, 70, 71, 72, 73, 74, 75, 76, 77, 78, 79, 80, 81, 82, 83, 84, 85, 100, 101, 102, 103, 93, 94, 95, 96, 97, 98, 99] (by decide +kernel) (by decide +kernel)
set_option maxRecDepth 20000 in
theorem gX7_debts_X2_areSo : GoodIn wsX7_debts (wsV RX7 157 RX2 yX2_areSo wsX2_areSo) := goodIn_app (goodIn_of _ (by decide +kernel)) ggX7_debts_X2_areSo
theorem dX7_debts_0 : decode cX7_debts 0 = .ok (.aload_n 0, 1) := by decide +kernel
theorem dX7_debts_1 : decode cX7_debts 1 = .ok (.iload_n 1, 1) := by decide +kernel
theorem dX7_debts_2 : decode cX7_debts 2 = .ok (.invokevirtual 86, 3) := by decide +kernel
theorem dX7_debts_5 : decode cX7_debts 5 = .ok (.ifCond .eq 16, 3) := by decide +kernel
theorem dX7_debts_8 : decode cX7_debts 8 = .ok (.aload_n 0, 1) := by decide +kernel
theorem dX7_debts_9 : decode cX7_debts 9 = .ok (.iload_n 2, 1) := by decide +kernel
theorem dX7_debts_10 : decode cX7_debts 10 = .ok (.invokevirtual 86, 3) := by decide +kernel
theorem dX7_debts_13 : decode cX7_debts 13 = .ok (.ifCond .eq 8, 3) := by decide +kernel
theorem dX7_debts_16 : decode cX7_debts 16 = .ok (.iload_n 1, 1) := by decide +kernel
theorem dX7_debts_17 : decode cX7_debts 17 = .ok (.iload_n 2, 1) := by decide +kernel
theorem dX7_debts_18 : decode cX7_debts 18 = .ok (.if_icmp .ne 5, 3) := by decide +kernel
theorem dX7_debts_21 : decode cX7_debts 21 = .ok (.iconst (-1), 1) := by decide +kernel
theorem dX7_debts_22 : decode cX7_debts 22 = .ok (.ireturn, 1) := by decide +kernel
theorem dX7_debts_23 : decode cX7_debts 23 = .ok (.iconst 0, 1) := by decide +kernel
theorem dX7_debts_24 : decode cX7_debts 24 = .ok (.istore_n 3, 1) := by decide +kernel
theorem dX7_debts_25 : decode cX7_debts 25 = .ok (.iconst 0, 1) := by decide +kernel
theorem dX7_debts_26 : decode cX7_debts 26 = .ok (.istore 4, 2) := by decide +kernel
theorem dX7_debts_28 : decode cX7_debts 28 = .ok (.iload 4, 2) := by decide +kernel
theorem dX7_debts_30 : decode cX7_debts 30 = .ok (.bipush 9, 2) := by decide +kernel
theorem dX7_debts_32 : decode cX7_debts 32 = .ok (.if_icmp .gt 54, 3) := by decide +kernel
theorem dX7_debts_35 : decode cX7_debts 35 = .ok (.aload_n 0, 1) := by decide +kernel
theorem dX7_debts_36 : decode cX7_debts 36 = .ok (.getfield 18, 3) := by decide +kernel
theorem dX7_debts_39 : decode cX7_debts 39 = .ok (.aload_n 0, 1) := by decide +kernel
theorem dX7_debts_40 : decode cX7_debts 40 = .ok (.getfield 12, 3) := by decide +kernel
theorem dX7_debts_43 : decode cX7_debts 43 = .ok (.invokevirtual 75, 3) := by decide +kernel
theorem dX7_debts_46 : decode cX7_debts 46 = .ok (.aload_n 0, 1) := by decide +kernel
theorem dX7_debts_47 : decode cX7_debts 47 = .ok (.getfield 18, 3) := by decide +kernel
theorem dX7_debts_50 : decode cX7_debts 50 = .ok (.getfield 105, 3) := by decide +kernel
theorem dX7_debts_53 : decode cX7_debts 53 = .ok (.iload_n 1, 1) := by decide +kernel
theorem dX7_debts_54 : decode cX7_debts 54 = .ok (.aaload, 1) := by decide +kernel
theorem dX7_debts_55 : decode cX7_debts 55 = .ok (.iload_n 2, 1) := by decide +kernel
theorem dX7_debts_56 : decode cX7_debts 56 = .ok (.iload 4, 2) := by decide +kernel
theorem dX7_debts_58 : decode cX7_debts 58 = .ok (.iastore, 1) := by decide +kernel
theorem dX7_debts_59 : decode cX7_debts 59 = .ok (.aload_n 0, 1) := by decide +kernel
theorem dX7_debts_60 : decode cX7_debts 60 = .ok (.getfield 34, 3) := by decide +kernel
theorem dX7_debts_63 : decode cX7_debts 63 = .ok (.aload_n 0, 1) := by decide +kernel
theorem dX7_debts_64 : decode cX7_debts 64 = .ok (.getfield 18, 3) := by decide +kernel
theorem dX7_debts_67 : decode cX7_debts 67 = .ok (.invokevirtual 157, 3) := by decide +kernel
theorem dX7_debts_70 : decode cX7_debts 70 = .ok (.ifCond .eq 10, 3) := by decide +kernel
theorem dX7_debts_73 : decode cX7_debts 73 = .ok (.iload_n 3, 1) := by decide +kernel
theorem dX7_debts_74 : decode cX7_debts 74 = .ok (.iconst 1, 1) := by decide +kernel
theorem dX7_debts_75 : decode cX7_debts 75 = .ok (.iload 4, 2) := by decide +kernel
theorem dX7_debts_77 : decode cX7_debts 77 = .ok (.ishl, 1) := by decide +kernel
theorem dX7_debts_78 : decode cX7_debts 78 = .ok (.ior, 1) := by decide +kernel
theorem dX7_debts_79 : decode cX7_debts 79 = .ok (.istore_n 3, 1) := by decide +kernel
theorem dX7_debts_80 : decode cX7_debts 80 = .ok (.iinc 4 1, 3) := by decide +kernel
theorem dX7_debts_83 : decode cX7_debts 83 = .ok (.goto (-55), 3) := by decide +kernel
theorem dX7_debts_86 : decode cX7_debts 86 = .ok (.iload_n 3, 1) := by decide +kernel
theorem dX7_debts_87 : decode cX7_debts 87 = .ok (.ireturn, 1) := by decide +kernel
set_option maxRecDepth 20000 in
theorem ggX7_kinds_X7_isPerson : GoodIn wsX7_kinds wsX7_isPerson := goodIn_r _ [8, 2, 86, 87, 88, 89, 90, 91, 92, 93, 94, 95, 96, 97, 98, 99] (by decide +kernel) (by decide +kernel)
set_option maxRecDepth 20000 in
theorem gX7_kinds_X7_isPerson : GoodIn wsX7_kinds (wsV RX7 86 RX7 yX7_isPerson wsX7_isPerson) := goodIn_app (goodIn_of _ (by decide +kernel)) ggX7_kinds_X7_isPerson
set_option maxRecDepth 20000 in
theorem ggX7_kinds_X5_becomeLike : GoodIn wsX7_kinds wsX5_becomeLike := goodIn_r _ [13, 14, 15, 16, 17, 93, 94, 95, 96, 97, 98, 99] (by decide +kernel) (by decide +kernel)
set_option maxRecDepth 20000 in
theorem gX7_kinds_X5_becomeLike : GoodIn wsX7_kinds (wsV RX7 75 RX5 yX5_becomeLike wsX5_becomeLike) := goodIn_app (goodIn_of _ (by decide +kernel)) ggX7_kinds_X5_becomeLike
set_option maxRecDepth 20000 in
theorem ggX7_kinds_X2_areSo : GoodIn wsX7_kinds wsX2_areSo := goodIn_r _ [22, 23, 24, 25, 21, 26, 27, 28, 29, 30, 31, 32, 33, 34, 35, 12, 36, 14, 37, 15, 38, 17, 39, 40, 41, 42, 43, 44, 45, 46, 47, 48, 49, 50, 51, 52, 53, 54, 55, 16, 56, 57, 58, 59, 60, 61, 62, 63, 64, 65, 66, 67, 68, 69, 70, 71, 72, 73, 74, 75, 76, 77, 78, 79, 80, 81, 82, 83, 84, 85, 100, 101, 102, 103, 93, 94, 95, 96, 97, 98, 99] (by decide +kernel) (by decide +kernel)
set_option maxRecDepth 20000 in
theorem gX7_kinds_X2_areSo : GoodIn wsX7_kinds (wsV RX7 157 RX2 yX2_areSo wsX2_areSo) := goodIn_app (goodIn_of _ (by decide +kernel)) ggX7_kinds_X2_areSo
theorem dX7_kinds_0 : decode cX7_kinds 0 = .ok (.aload_n 0, 1) := by decide +kernel
theorem dX7_kinds_1 : decode cX7_kinds 1 = .ok (.iload_n 1, 1) := by decide +kernel
theorem dX7_kinds_2 : decode cX7_kinds 2 = .ok (.invokevirtual 86, 3) := by decide +kernel
theorem dX7_kinds_5 : decode cX7_kinds 5 = .ok (.ifCond .ne 5, 3) := by decide +kernel
theorem dX7_kinds_8 : decode cX7_kinds 8 = .ok (.iconst (-1), 1) := by decide +kernel
theorem dX7_kinds_9 : decode cX7_kinds 9 = .ok (.ireturn, 1) := by decide +kernel
theorem dX7_kinds_10 : decode cX7_kinds 10 = .ok (.iconst 0, 1) := by decide +kernel
theorem dX7_kinds_11 : decode cX7_kinds 11 = .ok (.istore_n 2, 1) := by decide +kernel
theorem dX7_kinds_12 : decode cX7_kinds 12 = .ok (.iconst 0, 1) := by decide +kernel
theorem dX7_kinds_13 : decode cX7_kinds 13 = .ok (.istore_n 3, 1) := by decide +kernel
theorem dX7_kinds_14 : decode cX7_kinds 14 = .ok (.iload_n 3, 1) := by decide +kernel
theorem dX7_kinds_15 : decode cX7_kinds 15 = .ok (.iconst 2, 1) := by decide +kernel
theorem dX7_kinds_16 : decode cX7_kinds 16 = .ok (.if_icmp .gt 50, 3) := by decide +kernel
theorem dX7_kinds_19 : decode cX7_kinds 19 = .ok (.aload_n 0, 1) := by decide +kernel
theorem dX7_kinds_20 : decode cX7_kinds 20 = .ok (.getfield 18, 3) := by decide +kernel
theorem dX7_kinds_23 : decode cX7_kinds 23 = .ok (.aload_n 0, 1) := by decide +kernel
theorem dX7_kinds_24 : decode cX7_kinds 24 = .ok (.getfield 12, 3) := by decide +kernel
theorem dX7_kinds_27 : decode cX7_kinds 27 = .ok (.invokevirtual 75, 3) := by decide +kernel
theorem dX7_kinds_30 : decode cX7_kinds 30 = .ok (.aload_n 0, 1) := by decide +kernel
theorem dX7_kinds_31 : decode cX7_kinds 31 = .ok (.getfield 18, 3) := by decide +kernel
theorem dX7_kinds_34 : decode cX7_kinds 34 = .ok (.getfield 89, 3) := by decide +kernel
theorem dX7_kinds_37 : decode cX7_kinds 37 = .ok (.iload_n 1, 1) := by decide +kernel
theorem dX7_kinds_38 : decode cX7_kinds 38 = .ok (.iload_n 3, 1) := by decide +kernel
theorem dX7_kinds_39 : decode cX7_kinds 39 = .ok (.iastore, 1) := by decide +kernel
theorem dX7_kinds_40 : decode cX7_kinds 40 = .ok (.aload_n 0, 1) := by decide +kernel
theorem dX7_kinds_41 : decode cX7_kinds 41 = .ok (.getfield 34, 3) := by decide +kernel
theorem dX7_kinds_44 : decode cX7_kinds 44 = .ok (.aload_n 0, 1) := by decide +kernel
theorem dX7_kinds_45 : decode cX7_kinds 45 = .ok (.getfield 18, 3) := by decide +kernel
theorem dX7_kinds_48 : decode cX7_kinds 48 = .ok (.invokevirtual 157, 3) := by decide +kernel
theorem dX7_kinds_51 : decode cX7_kinds 51 = .ok (.ifCond .eq 9, 3) := by decide +kernel
theorem dX7_kinds_54 : decode cX7_kinds 54 = .ok (.iload_n 2, 1) := by decide +kernel
theorem dX7_kinds_55 : decode cX7_kinds 55 = .ok (.iconst 1, 1) := by decide +kernel
theorem dX7_kinds_56 : decode cX7_kinds 56 = .ok (.iload_n 3, 1) := by decide +kernel
theorem dX7_kinds_57 : decode cX7_kinds 57 = .ok (.ishl, 1) := by decide +kernel
theorem dX7_kinds_58 : decode cX7_kinds 58 = .ok (.ior, 1) := by decide +kernel
theorem dX7_kinds_59 : decode cX7_kinds 59 = .ok (.istore_n 2, 1) := by decide +kernel
theorem dX7_kinds_60 : decode cX7_kinds 60 = .ok (.iinc 3 1, 3) := by decide +kernel
theorem dX7_kinds_63 : decode cX7_kinds 63 = .ok (.goto (-49), 3) := by decide +kernel
theorem dX7_kinds_66 : decode cX7_kinds 66 = .ok (.iload_n 2, 1) := by decide +kernel
theorem dX7_kinds_67 : decode cX7_kinds 67 = .ok (.ireturn, 1) := by decide +kernel
set_option maxRecDepth 20000 in
theorem ggX7_bells_X7_hasTown : GoodIn wsX7_bells wsX7_hasTown := goodIn_r _ [8, 2, 86, 87, 88, 89, 90, 91, 92, 93, 94, 95, 96, 97, 98, 99] (by decide +kernel) (by decide +kernel)
set_option maxRecDepth 20000 in
theorem gX7_bells_X7_hasTown : GoodIn wsX7_bells (wsV RX7 113 RX7 yX7_hasTown wsX7_hasTown) := goodIn_app (goodIn_of _ (by decide +kernel)) ggX7_bells_X7_hasTown
set_option maxRecDepth 20000 in
theorem ggX7_bells_X5_becomeLike : GoodIn wsX7_bells wsX5_becomeLike := goodIn_r _ [13, 14, 15, 16, 17, 93, 94, 95, 96, 97, 98, 99] (by decide +kernel) (by decide +kernel)
set_option maxRecDepth 20000 in
theorem gX7_bells_X5_becomeLike : GoodIn wsX7_bells (wsV RX7 75 RX5 yX5_becomeLike wsX5_becomeLike) := goodIn_app (goodIn_of _ (by decide +kernel)) ggX7_bells_X5_becomeLike
set_option maxRecDepth 20000 in
theorem ggX7_bells_X2_areSo : GoodIn wsX7_bells wsX2_areSo := goodIn_r _ [22, 23, 24, 25, 21, 26, 27, 28, 29, 30, 31, 32, 33, 34, 35, 12, 36, 14, 37, 15, 38, 17, 39, 40, 41, 42, 43, 44, 45, 46, 47, 48, 49, 50, 51, 52, 53, 54, 55, 16, 56, 57, 58, 59, 60, 61, 62, 63, 64, 65, 66, 67, 68, 69, 70, 71, 72, 73, 74, 75, 76, 77, 78, 79, 80, 81, 82, 83, 84, 85, 100, 101, 102, 103, 93, 94, 95, 96, 97, 98, 99] (by decide +kernel) (by decide +kernel)
set_option maxRecDepth 20000 in
theorem gX7_bells_X2_areSo : GoodIn wsX7_bells (wsV RX7 157 RX2 yX2_areSo wsX2_areSo) := goodIn_app (goodIn_of _ (by decide +kernel)) ggX7_bells_X2_areSo
theorem dX7_bells_0 : decode cX7_bells 0 = .ok (.aload_n 0, 1) := by decide +kernel
theorem dX7_bells_1 : decode cX7_bells 1 = .ok (.invokevirtual 113, 3) := by decide +kernel
theorem dX7_bells_4 : decode cX7_bells 4 = .ok (.ifCond .ne 6, 3) := by decide +kernel
theorem dX7_bells_7 : decode cX7_bells 7 = .ok (.bipush (-3), 2) := by decide +kernel
theorem dX7_bells_9 : decode cX7_bells 9 = .ok (.ireturn, 1) := by decide +kernel
theorem dX7_bells_10 : decode cX7_bells 10 = .ok (.iconst 0, 1) := by decide +kernel
theorem dX7_bells_11 : decode cX7_bells 11 = .ok (.istore_n 1, 1) := by decide +kernel
theorem dX7_bells_12 : decode cX7_bells 12 = .ok (.iconst 0, 1) := by decide +kernel
theorem dX7_bells_13 : decode cX7_bells 13 = .ok (.istore_n 2, 1) := by decide +kernel
theorem dX7_bells_14 : decode cX7_bells 14 = .ok (.iload_n 2, 1) := by decide +kernel
theorem dX7_bells_15 : decode cX7_bells 15 = .ok (.bipush 9, 2) := by decide +kernel
theorem dX7_bells_17 : decode cX7_bells 17 = .ok (.if_icmp .gt 48, 3) := by decide +kernel
theorem dX7_bells_20 : decode cX7_bells 20 = .ok (.aload_n 0, 1) := by decide +kernel
theorem dX7_bells_21 : decode cX7_bells 21 = .ok (.getfield 18, 3) := by decide +kernel
theorem dX7_bells_24 : decode cX7_bells 24 = .ok (.aload_n 0, 1) := by decide +kernel
theorem dX7_bells_25 : decode cX7_bells 25 = .ok (.getfield 12, 3) := by decide +kernel
theorem dX7_bells_28 : decode cX7_bells 28 = .ok (.invokevirtual 75, 3) := by decide +kernel
theorem dX7_bells_31 : decode cX7_bells 31 = .ok (.aload_n 0, 1) := by decide +kernel
theorem dX7_bells_32 : decode cX7_bells 32 = .ok (.getfield 18, 3) := by decide +kernel
theorem dX7_bells_35 : decode cX7_bells 35 = .ok (.iload_n 2, 1) := by decide +kernel
theorem dX7_bells_36 : decode cX7_bells 36 = .ok (.putfield 102, 3) := by decide +kernel
theorem dX7_bells_39 : decode cX7_bells 39 = .ok (.aload_n 0, 1) := by decide +kernel
theorem dX7_bells_40 : decode cX7_bells 40 = .ok (.getfield 34, 3) := by decide +kernel
theorem dX7_bells_43 : decode cX7_bells 43 = .ok (.aload_n 0, 1) := by decide +kernel
theorem dX7_bells_44 : decode cX7_bells 44 = .ok (.getfield 18, 3) := by decide +kernel
theorem dX7_bells_47 : decode cX7_bells 47 = .ok (.invokevirtual 157, 3) := by decide +kernel
theorem dX7_bells_50 : decode cX7_bells 50 = .ok (.ifCond .eq 9, 3) := by decide +kernel
theorem dX7_bells_53 : decode cX7_bells 53 = .ok (.iload_n 1, 1) := by decide +kernel
theorem dX7_bells_54 : decode cX7_bells 54 = .ok (.iconst 1, 1) := by decide +kernel
theorem dX7_bells_55 : decode cX7_bells 55 = .ok (.iload_n 2, 1) := by decide +kernel
theorem dX7_bells_56 : decode cX7_bells 56 = .ok (.ishl, 1) := by decide +kernel
theorem dX7_bells_57 : decode cX7_bells 57 = .ok (.ior, 1) := by decide +kernel
theorem dX7_bells_58 : decode cX7_bells 58 = .ok (.istore_n 1, 1) := by decide +kernel
theorem dX7_bells_59 : decode cX7_bells 59 = .ok (.iinc 2 1, 3) := by decide +kernel
theorem dX7_bells_62 : decode cX7_bells 62 = .ok (.goto (-48), 3) := by decide +kernel
theorem dX7_bells_65 : decode cX7_bells 65 = .ok (.iload_n 1, 1) := by decide +kernel
theorem dX7_bells_66 : decode cX7_bells 66 = .ok (.ireturn, 1) := by decide +kernel
set_option maxRecDepth 20000 in
theorem ggX7_odds_X7_isPerson : GoodIn wsX7_odds wsX7_isPerson := goodIn_r _ [7, 2, 44, 45, 46, 47, 48, 49, 50, 51, 52, 53, 54, 55, 56, 57] (by decide +kernel) (by decide +kernel)
set_option maxRecDepth 20000 in
theorem gX7_odds_X7_isPerson : GoodIn wsX7_odds (wsV RX7 86 RX7 yX7_isPerson wsX7_isPerson) := goodIn_app (goodIn_of _ (by decide +kernel)) ggX7_odds_X7_isPerson
set_option maxRecDepth 20000 in
theorem ggX7_odds_X7_isWithin : GoodIn wsX7_odds wsX7_isWithin := goodIn_r _ [10] (by decide +kernel) (by decide +kernel)
set_option maxRecDepth 20000 in
theorem gX7_odds_X7_isWithin : GoodIn wsX7_odds (va_wsS RX7 53 yX7_isWithin wsX7_isWithin) := goodIn_app (goodIn_of _ (by decide +kernel)) ggX7_odds_X7_isWithin
set_option maxRecDepth 20000 in
theorem ggX7_odds_X5_owingTo : GoodIn wsX7_odds wsX5_owingTo := goodIn_r _ [15, 16, 17, 51, 52, 53, 54, 55, 56, 57] (by decide +kernel) (by decide +kernel)
set_option maxRecDepth 20000 in
theorem gX7_odds_X5_owingTo : GoodIn wsX7_odds (wsV RX7 163 RX5 yX5_owingTo wsX5_owingTo) := goodIn_app (goodIn_of _ (by decide +kernel)) ggX7_odds_X5_owingTo
set_option maxRecDepth 20000 in
theorem ggX7_odds_X5_lighterAmong : GoodIn wsX7_odds wsX5_lighterAmong := goodIn_r _ [21, 16, 22, 23, 24, 14, 25, 26, 27, 17, 28, 29, 30, 31, 32, 33, 34, 35, 36, 37, 38, 39, 40, 41, 42, 43, 51, 52, 53, 54, 55, 56, 57] (by decide +kernel) (by decide +kernel)
set_option maxRecDepth 20000 in
theorem gX7_odds_X5_lighterAmong : GoodIn wsX7_odds (wsV RX7 116 RX5 yX5_lighterAmong wsX5_lighterAmong) := goodIn_app (goodIn_of _ (by decide +kernel)) ggX7_odds_X5_lighterAmong
theorem dX7_odds_0 : decode cX7_odds 0 = .ok (.aload_n 0, 1) := by decide +kernel
theorem dX7_odds_1 : decode cX7_odds 1 = .ok (.iload_n 1, 1) := by decide +kernel
theorem dX7_odds_2 : decode cX7_odds 2 = .ok (.invokevirtual 86, 3) := by decide +kernel
theorem dX7_odds_5 : decode cX7_odds 5 = .ok (.ifCond .eq 19, 3) := by decide +kernel
theorem dX7_odds_8 : decode cX7_odds 8 = .ok (.aload_n 0, 1) := by decide +kernel
theorem dX7_odds_9 : decode cX7_odds 9 = .ok (.iload_n 2, 1) := by decide +kernel
theorem dX7_odds_10 : decode cX7_odds 10 = .ok (.invokevirtual 86, 3) := by decide +kernel
theorem dX7_odds_13 : decode cX7_odds 13 = .ok (.ifCond .eq 11, 3) := by decide +kernel
theorem dX7_odds_16 : decode cX7_odds 16 = .ok (.iload_n 3, 1) := by decide +kernel
theorem dX7_odds_17 : decode cX7_odds 17 = .ok (.iconst 1, 1) := by decide +kernel
theorem dX7_odds_18 : decode cX7_odds 18 = .ok (.invokestatic 53, 3) := by decide +kernel
theorem dX7_odds_21 : decode cX7_odds 21 = .ok (.ifCond .ne 7, 3) := by decide +kernel
theorem dX7_odds_24 : decode cX7_odds 24 = .ok (.ldc2_w 161, 3) := by decide +kernel
theorem dX7_odds_27 : decode cX7_odds 27 = .ok (.lreturn, 1) := by decide +kernel
theorem dX7_odds_28 : decode cX7_odds 28 = .ok (.aload_n 0, 1) := by decide +kernel
theorem dX7_odds_29 : decode cX7_odds 29 = .ok (.getfield 12, 3) := by decide +kernel
theorem dX7_odds_32 : decode cX7_odds 32 = .ok (.iload_n 1, 1) := by decide +kernel
theorem dX7_odds_33 : decode cX7_odds 33 = .ok (.invokevirtual 163, 3) := by decide +kernel
theorem dX7_odds_36 : decode cX7_odds 36 = .ok (.istore 4, 2) := by decide +kernel
theorem dX7_odds_38 : decode cX7_odds 38 = .ok (.iconst 0, 1) := by decide +kernel
theorem dX7_odds_39 : decode cX7_odds 39 = .ok (.istore 5, 2) := by decide +kernel
theorem dX7_odds_41 : decode cX7_odds 41 = .ok (.iconst 0, 1) := by decide +kernel
theorem dX7_odds_42 : decode cX7_odds 42 = .ok (.istore 6, 2) := by decide +kernel
theorem dX7_odds_44 : decode cX7_odds 44 = .ok (.iconst 0, 1) := by decide +kernel
theorem dX7_odds_45 : decode cX7_odds 45 = .ok (.istore 7, 2) := by decide +kernel
theorem dX7_odds_47 : decode cX7_odds 47 = .ok (.iload 7, 2) := by decide +kernel
theorem dX7_odds_49 : decode cX7_odds 49 = .ok (.bipush 64, 2) := by decide +kernel
theorem dX7_odds_51 : decode cX7_odds 51 = .ok (.if_icmp .ge 42, 3) := by decide +kernel
theorem dX7_odds_54 : decode cX7_odds 54 = .ok (.iload 7, 2) := by decide +kernel
theorem dX7_odds_56 : decode cX7_odds 56 = .ok (.iload 4, 2) := by decide +kernel
theorem dX7_odds_58 : decode cX7_odds 58 = .ok (.iconst (-1), 1) := by decide +kernel
theorem dX7_odds_59 : decode cX7_odds 59 = .ok (.ixor, 1) := by decide +kernel
theorem dX7_odds_60 : decode cX7_odds 60 = .ok (.iand, 1) := by decide +kernel
theorem dX7_odds_61 : decode cX7_odds 61 = .ok (.ifCond .eq 6, 3) := by decide +kernel
theorem dX7_odds_64 : decode cX7_odds 64 = .ok (.goto 23, 3) := by decide +kernel
theorem dX7_odds_67 : decode cX7_odds 67 = .ok (.iinc 6 1, 3) := by decide +kernel
theorem dX7_odds_70 : decode cX7_odds 70 = .ok (.aload_n 0, 1) := by decide +kernel
theorem dX7_odds_71 : decode cX7_odds 71 = .ok (.getfield 12, 3) := by decide +kernel
theorem dX7_odds_74 : decode cX7_odds 74 = .ok (.iload_n 1, 1) := by decide +kernel
theorem dX7_odds_75 : decode cX7_odds 75 = .ok (.iload 7, 2) := by decide +kernel
theorem dX7_odds_77 : decode cX7_odds 77 = .ok (.invokevirtual 116, 3) := by decide +kernel
theorem dX7_odds_80 : decode cX7_odds 80 = .ok (.iload_n 2, 1) := by decide +kernel
theorem dX7_odds_81 : decode cX7_odds 81 = .ok (.if_icmp .ne 6, 3) := by decide +kernel
theorem dX7_odds_84 : decode cX7_odds 84 = .ok (.iinc 5 1, 3) := by decide +kernel
theorem dX7_odds_87 : decode cX7_odds 87 = .ok (.iinc 7 1, 3) := by decide +kernel
theorem dX7_odds_90 : decode cX7_odds 90 = .ok (.goto (-43), 3) := by decide +kernel
theorem dX7_odds_93 : decode cX7_odds 93 = .ok (.iconst 0, 1) := by decide +kernel
theorem dX7_odds_94 : decode cX7_odds 94 = .ok (.istore 7, 2) := by decide +kernel
theorem dX7_odds_96 : decode cX7_odds 96 = .ok (.iload 7, 2) := by decide +kernel
theorem dX7_odds_98 : decode cX7_odds 98 = .ok (.bipush 6, 2) := by decide +kernel
theorem dX7_odds_100 : decode cX7_odds 100 = .ok (.if_icmp .ge 34, 3) := by decide +kernel
theorem dX7_odds_103 : decode cX7_odds 103 = .ok (.iload 6, 2) := by decide +kernel
theorem dX7_odds_105 : decode cX7_odds 105 = .ok (.iconst 1, 1) := by decide +kernel
theorem dX7_odds_106 : decode cX7_odds 106 = .ok (.if_icmp .le 28, 3) := by decide +kernel
theorem dX7_odds_109 : decode cX7_odds 109 = .ok (.iload 5, 2) := by decide +kernel
theorem dX7_odds_111 : decode cX7_odds 111 = .ok (.iconst 2, 1) := by decide +kernel
theorem dX7_odds_112 : decode cX7_odds 112 = .ok (.irem, 1) := by decide +kernel
theorem dX7_odds_113 : decode cX7_odds 113 = .ok (.ifCond .ne 21, 3) := by decide +kernel
theorem dX7_odds_116 : decode cX7_odds 116 = .ok (.iload 5, 2) := by decide +kernel
theorem dX7_odds_118 : decode cX7_odds 118 = .ok (.iconst 2, 1) := by decide +kernel
theorem dX7_odds_119 : decode cX7_odds 119 = .ok (.idiv, 1) := by decide +kernel
theorem dX7_odds_120 : decode cX7_odds 120 = .ok (.istore 5, 2) := by decide +kernel
theorem dX7_odds_122 : decode cX7_odds 122 = .ok (.iload 6, 2) := by decide +kernel
theorem dX7_odds_124 : decode cX7_odds 124 = .ok (.iconst 2, 1) := by decide +kernel
theorem dX7_odds_125 : decode cX7_odds 125 = .ok (.idiv, 1) := by decide +kernel
theorem dX7_odds_126 : decode cX7_odds 126 = .ok (.istore 6, 2) := by decide +kernel
theorem dX7_odds_128 : decode cX7_odds 128 = .ok (.iinc 7 1, 3) := by decide +kernel
theorem dX7_odds_131 : decode cX7_odds 131 = .ok (.goto (-35), 3) := by decide +kernel
theorem dX7_odds_134 : decode cX7_odds 134 = .ok (.iload_n 3, 1) := by decide +kernel
theorem dX7_odds_135 : decode cX7_odds 135 = .ok (.ifCond .ne 9, 3) := by decide +kernel
theorem dX7_odds_138 : decode cX7_odds 138 = .ok (.iload 5, 2) := by decide +kernel
theorem dX7_odds_140 : decode cX7_odds 140 = .ok (.i2l, 1) := by decide +kernel
theorem dX7_odds_141 : decode cX7_odds 141 = .ok (.goto 6, 3) := by decide +kernel
theorem dX7_odds_144 : decode cX7_odds 144 = .ok (.iload 6, 2) := by decide +kernel
theorem dX7_odds_146 : decode cX7_odds 146 = .ok (.i2l, 1) := by decide +kernel
theorem dX7_odds_147 : decode cX7_odds 147 = .ok (.lreturn, 1) := by decide +kernel
set_option maxRecDepth 20000 in
theorem ggX7_sheet_X7_isSheet : GoodIn wsX7_sheet wsX7_isSheet := goodIn_r _ [6] (by decide +kernel) (by decide +kernel)
set_option maxRecDepth 20000 in
theorem gX7_sheet_X7_isSheet : GoodIn wsX7_sheet (va_wsS RX7 49 yX7_isSheet wsX7_isSheet) := goodIn_app (goodIn_of _ (by decide +kernel)) ggX7_sheet_X7_isSheet
set_option maxRecDepth 20000 in
theorem ggX7_sheet_X7_isWithin : GoodIn wsX7_sheet wsX7_isWithin := goodIn_r _ [9] (by decide +kernel) (by decide +kernel)
set_option maxRecDepth 20000 in
theorem gX7_sheet_X7_isWithin : GoodIn wsX7_sheet (va_wsS RX7 53 yX7_isWithin wsX7_isWithin) := goodIn_app (goodIn_of _ (by decide +kernel)) ggX7_sheet_X7_isWithin
set_option maxRecDepth 20000 in
theorem ggX7_sheet_X7_faulted : GoodIn wsX7_sheet wsX7_faulted := goodIn_r _ [13, 1, 29, 30, 31, 32, 33, 34, 35] (by decide +kernel) (by decide +kernel)
set_option maxRecDepth 20000 in
theorem gX7_sheet_X7_faulted : GoodIn wsX7_sheet (wsV RX7 60 RX7 yX7_faulted wsX7_faulted) := goodIn_app (goodIn_of _ (by decide +kernel)) ggX7_sheet_X7_faulted
set_option maxRecDepth 20000 in
theorem ggX7_sheet_X4_renew : GoodIn wsX7_sheet wsX4_renew := goodIn_r _ [18, 19, 20, 21, 22, 23, 24, 25, 26, 27, 28, 36, 37, 38] (by decide +kernel) (by decide +kernel)
set_option maxRecDepth 20000 in
theorem gX7_sheet_X4_renew : GoodIn wsX7_sheet (wsV RX7 166 RX4 yX4_renew wsX4_renew) := goodIn_app (goodIn_of _ (by decide +kernel)) ggX7_sheet_X4_renew
theorem dX7_sheet_0 : decode cX7_sheet 0 = .ok (.aload_n 0, 1) := by decide +kernel
theorem dX7_sheet_1 : decode cX7_sheet 1 = .ok (.iconst 0, 1) := by decide +kernel
theorem dX7_sheet_2 : decode cX7_sheet 2 = .ok (.putfield 45, 3) := by decide +kernel
theorem dX7_sheet_5 : decode cX7_sheet 5 = .ok (.iload_n 1, 1) := by decide +kernel
theorem dX7_sheet_6 : decode cX7_sheet 6 = .ok (.invokestatic 49, 3) := by decide +kernel
theorem dX7_sheet_9 : decode cX7_sheet 9 = .ok (.ifCond .ne 5, 3) := by decide +kernel
theorem dX7_sheet_12 : decode cX7_sheet 12 = .ok (.iconst (-1), 1) := by decide +kernel
theorem dX7_sheet_13 : decode cX7_sheet 13 = .ok (.ireturn, 1) := by decide +kernel
theorem dX7_sheet_14 : decode cX7_sheet 14 = .ok (.iload_n 2, 1) := by decide +kernel
theorem dX7_sheet_15 : decode cX7_sheet 15 = .ok (.iconst 2, 1) := by decide +kernel
theorem dX7_sheet_16 : decode cX7_sheet 16 = .ok (.invokestatic 53, 3) := by decide +kernel
theorem dX7_sheet_19 : decode cX7_sheet 19 = .ok (.ifCond .eq 9, 3) := by decide +kernel
theorem dX7_sheet_22 : decode cX7_sheet 22 = .ok (.iload_n 3, 1) := by decide +kernel
theorem dX7_sheet_23 : decode cX7_sheet 23 = .ok (.bipush 60, 2) := by decide +kernel
theorem dX7_sheet_25 : decode cX7_sheet 25 = .ok (.if_icmp .le 6, 3) := by decide +kernel
theorem dX7_sheet_28 : decode cX7_sheet 28 = .ok (.bipush (-2), 2) := by decide +kernel
theorem dX7_sheet_30 : decode cX7_sheet 30 = .ok (.ireturn, 1) := by decide +kernel
theorem dX7_sheet_31 : decode cX7_sheet 31 = .ok (.iload_n 3, 1) := by decide +kernel
theorem dX7_sheet_32 : decode cX7_sheet 32 = .ok (.ifCond .ge 9, 3) := by decide +kernel
theorem dX7_sheet_35 : decode cX7_sheet 35 = .ok (.aload_n 0, 1) := by decide +kernel
theorem dX7_sheet_36 : decode cX7_sheet 36 = .ok (.iconst 4, 1) := by decide +kernel
theorem dX7_sheet_37 : decode cX7_sheet 37 = .ok (.invokevirtual 60, 3) := by decide +kernel
theorem dX7_sheet_40 : decode cX7_sheet 40 = .ok (.ireturn, 1) := by decide +kernel
theorem dX7_sheet_41 : decode cX7_sheet 41 = .ok (.aload_n 0, 1) := by decide +kernel
theorem dX7_sheet_42 : decode cX7_sheet 42 = .ok (.getfield 41, 3) := by decide +kernel
theorem dX7_sheet_45 : decode cX7_sheet 45 = .ok (.iload_n 1, 1) := by decide +kernel
theorem dX7_sheet_46 : decode cX7_sheet 46 = .ok (.aaload, 1) := by decide +kernel
theorem dX7_sheet_47 : decode cX7_sheet 47 = .ok (.iload_n 2, 1) := by decide +kernel
theorem dX7_sheet_48 : decode cX7_sheet 48 = .ok (.iload_n 3, 1) := by decide +kernel
theorem dX7_sheet_49 : decode cX7_sheet 49 = .ok (.invokevirtual 166, 3) := by decide +kernel
theorem dX7_sheet_52 : decode cX7_sheet 52 = .ok (.iconst 1, 1) := by decide +kernel
theorem dX7_sheet_53 : decode cX7_sheet 53 = .ok (.ireturn, 1) := by decide +kernel
set_option maxRecDepth 20000 in
theorem ggX7_lose_X7_isSheet : GoodIn wsX7_lose wsX7_isSheet := goodIn_r _ [5] (by decide +kernel) (by decide +kernel)
set_option maxRecDepth 20000 in
theorem gX7_lose_X7_isSheet : GoodIn wsX7_lose (va_wsS RX7 49 yX7_isSheet wsX7_isSheet) := goodIn_app (goodIn_of _ (by decide +kernel)) ggX7_lose_X7_isSheet
set_option maxRecDepth 20000 in
theorem ggX7_lose_X4_hasNothing : GoodIn wsX7_lose wsX4_hasNothing := goodIn_r _ [10, 11, 23, 24, 25] (by decide +kernel) (by decide +kernel)
set_option maxRecDepth 20000 in
theorem gX7_lose_X4_hasNothing : GoodIn wsX7_lose (wsV RX7 64 RX4 yX4_hasNothing wsX4_hasNothing) := goodIn_app (goodIn_of _ (by decide +kernel)) ggX7_lose_X4_hasNothing
set_option maxRecDepth 20000 in
theorem ggX7_lose_X4_loseRow : GoodIn wsX7_lose wsX4_loseRow := goodIn_r _ [15, 11, 23, 24, 25] (by decide +kernel) (by decide +kernel)
set_option maxRecDepth 20000 in
theorem gX7_lose_X4_loseRow : GoodIn wsX7_lose (wsV RX7 170 RX4 yX4_loseRow wsX4_loseRow) := goodIn_app (goodIn_of _ (by decide +kernel)) ggX7_lose_X4_loseRow
theorem dX7_lose_0 : decode cX7_lose 0 = .ok (.iload_n 1, 1) := by decide +kernel
theorem dX7_lose_1 : decode cX7_lose 1 = .ok (.invokestatic 49, 3) := by decide +kernel
theorem dX7_lose_4 : decode cX7_lose 4 = .ok (.ifCond .ne 5, 3) := by decide +kernel
theorem dX7_lose_7 : decode cX7_lose 7 = .ok (.iconst (-1), 1) := by decide +kernel
theorem dX7_lose_8 : decode cX7_lose 8 = .ok (.ireturn, 1) := by decide +kernel
theorem dX7_lose_9 : decode cX7_lose 9 = .ok (.aload_n 0, 1) := by decide +kernel
theorem dX7_lose_10 : decode cX7_lose 10 = .ok (.getfield 41, 3) := by decide +kernel
theorem dX7_lose_13 : decode cX7_lose 13 = .ok (.iload_n 1, 1) := by decide +kernel
theorem dX7_lose_14 : decode cX7_lose 14 = .ok (.aaload, 1) := by decide +kernel
theorem dX7_lose_15 : decode cX7_lose 15 = .ok (.invokevirtual 64, 3) := by decide +kernel
theorem dX7_lose_18 : decode cX7_lose 18 = .ok (.ifCond .eq 5, 3) := by decide +kernel
theorem dX7_lose_21 : decode cX7_lose 21 = .ok (.iconst 0, 1) := by decide +kernel
theorem dX7_lose_22 : decode cX7_lose 22 = .ok (.ireturn, 1) := by decide +kernel
theorem dX7_lose_23 : decode cX7_lose 23 = .ok (.aload_n 0, 1) := by decide +kernel
theorem dX7_lose_24 : decode cX7_lose 24 = .ok (.getfield 41, 3) := by decide +kernel
theorem dX7_lose_27 : decode cX7_lose 27 = .ok (.iload_n 1, 1) := by decide +kernel
theorem dX7_lose_28 : decode cX7_lose 28 = .ok (.aaload, 1) := by decide +kernel
theorem dX7_lose_29 : decode cX7_lose 29 = .ok (.invokevirtual 170, 3) := by decide +kernel
theorem dX7_lose_32 : decode cX7_lose 32 = .ok (.iconst 1, 1) := by decide +kernel
theorem dX7_lose_33 : decode cX7_lose 33 = .ok (.ireturn, 1) := by decide +kernel
set_option maxRecDepth 20000 in
theorem ggX7_put_X7_isSheet : GoodIn wsX7_put wsX7_isSheet := goodIn_r _ [6] (by decide +kernel) (by decide +kernel)
set_option maxRecDepth 20000 in
theorem gX7_put_X7_isSheet : GoodIn wsX7_put (va_wsS RX7 49 yX7_isSheet wsX7_isSheet) := goodIn_app (goodIn_of _ (by decide +kernel)) ggX7_put_X7_isSheet
set_option maxRecDepth 20000 in
theorem ggX7_put_X4_hasNothing : GoodIn wsX7_put wsX4_hasNothing := goodIn_r _ [11, 12, 35, 36, 37] (by decide +kernel) (by decide +kernel)
set_option maxRecDepth 20000 in
theorem gX7_put_X4_hasNothing : GoodIn wsX7_put (wsV RX7 64 RX4 yX4_hasNothing wsX4_hasNothing) := goodIn_app (goodIn_of _ (by decide +kernel)) ggX7_put_X4_hasNothing
set_option maxRecDepth 20000 in
theorem ggX7_put_X7_faulted : GoodIn wsX7_put wsX7_faulted := goodIn_r _ [16, 1, 28, 29, 30, 31, 32, 33, 34] (by decide +kernel) (by decide +kernel)
set_option maxRecDepth 20000 in
theorem gX7_put_X7_faulted : GoodIn wsX7_put (wsV RX7 60 RX7 yX7_faulted wsX7_faulted) := goodIn_app (goodIn_of _ (by decide +kernel)) ggX7_put_X7_faulted
set_option maxRecDepth 20000 in
theorem ggX7_put_X4_hasCell : GoodIn wsX7_put wsX4_hasCell := goodIn_r _ [20, 12, 35, 36, 37] (by decide +kernel) (by decide +kernel)
set_option maxRecDepth 20000 in
theorem gX7_put_X4_hasCell : GoodIn wsX7_put (wsV RX7 173 RX4 yX4_hasCell wsX4_hasCell) := goodIn_app (goodIn_of _ (by decide +kernel)) ggX7_put_X4_hasCell
set_option maxRecDepth 20000 in
theorem ggX7_put_X4_setCut : GoodIn wsX7_put wsX4_setCut := goodIn_r _ [24, 25, 26, 27, 18, 19, 10, 20, 12, 35, 36, 37] (by decide +kernel) (by decide +kernel)
set_option maxRecDepth 20000 in
theorem gX7_put_X4_setCut : GoodIn wsX7_put (wsV RX7 176 RX4 yX4_setCut wsX4_setCut) := goodIn_app (goodIn_of _ (by decide +kernel)) ggX7_put_X4_setCut
theorem dX7_put_0 : decode cX7_put 0 = .ok (.aload_n 0, 1) := by decide +kernel
theorem dX7_put_1 : decode cX7_put 1 = .ok (.iconst 0, 1) := by decide +kernel
theorem dX7_put_2 : decode cX7_put 2 = .ok (.putfield 45, 3) := by decide +kernel
theorem dX7_put_5 : decode cX7_put 5 = .ok (.iload_n 1, 1) := by decide +kernel
theorem dX7_put_6 : decode cX7_put 6 = .ok (.invokestatic 49, 3) := by decide +kernel
theorem dX7_put_9 : decode cX7_put 9 = .ok (.ifCond .ne 5, 3) := by decide +kernel
theorem dX7_put_12 : decode cX7_put 12 = .ok (.iconst (-1), 1) := by decide +kernel
theorem dX7_put_13 : decode cX7_put 13 = .ok (.ireturn, 1) := by decide +kernel
theorem dX7_put_14 : decode cX7_put 14 = .ok (.aload_n 0, 1) := by decide +kernel
theorem dX7_put_15 : decode cX7_put 15 = .ok (.getfield 41, 3) := by decide +kernel
theorem dX7_put_18 : decode cX7_put 18 = .ok (.iload_n 1, 1) := by decide +kernel
theorem dX7_put_19 : decode cX7_put 19 = .ok (.aaload, 1) := by decide +kernel
theorem dX7_put_20 : decode cX7_put 20 = .ok (.astore 4, 2) := by decide +kernel
theorem dX7_put_22 : decode cX7_put 22 = .ok (.aload 4, 2) := by decide +kernel
theorem dX7_put_24 : decode cX7_put 24 = .ok (.invokevirtual 64, 3) := by decide +kernel
theorem dX7_put_27 : decode cX7_put 27 = .ok (.ifCond .eq 9, 3) := by decide +kernel
theorem dX7_put_30 : decode cX7_put 30 = .ok (.aload_n 0, 1) := by decide +kernel
theorem dX7_put_31 : decode cX7_put 31 = .ok (.iconst 1, 1) := by decide +kernel
theorem dX7_put_32 : decode cX7_put 32 = .ok (.invokevirtual 60, 3) := by decide +kernel
theorem dX7_put_35 : decode cX7_put 35 = .ok (.ireturn, 1) := by decide +kernel
theorem dX7_put_36 : decode cX7_put 36 = .ok (.aload 4, 2) := by decide +kernel
theorem dX7_put_38 : decode cX7_put 38 = .ok (.iload_n 2, 1) := by decide +kernel
theorem dX7_put_39 : decode cX7_put 39 = .ok (.invokevirtual 173, 3) := by decide +kernel
theorem dX7_put_42 : decode cX7_put 42 = .ok (.ifCond .ne 9, 3) := by decide +kernel
theorem dX7_put_45 : decode cX7_put 45 = .ok (.aload_n 0, 1) := by decide +kernel
theorem dX7_put_46 : decode cX7_put 46 = .ok (.iconst 3, 1) := by decide +kernel
theorem dX7_put_47 : decode cX7_put 47 = .ok (.invokevirtual 60, 3) := by decide +kernel
theorem dX7_put_50 : decode cX7_put 50 = .ok (.ireturn, 1) := by decide +kernel
theorem dX7_put_51 : decode cX7_put 51 = .ok (.aload 4, 2) := by decide +kernel
theorem dX7_put_53 : decode cX7_put 53 = .ok (.iload_n 2, 1) := by decide +kernel
theorem dX7_put_54 : decode cX7_put 54 = .ok (.iload_n 3, 1) := by decide +kernel
theorem dX7_put_55 : decode cX7_put 55 = .ok (.invokevirtual 176, 3) := by decide +kernel
theorem dX7_put_58 : decode cX7_put 58 = .ok (.iconst 1, 1) := by decide +kernel
theorem dX7_put_59 : decode cX7_put 59 = .ok (.ireturn, 1) := by decide +kernel
set_option maxRecDepth 20000 in
theorem ggX7_cell_X7_isSheet : GoodIn wsX7_cell wsX7_isSheet := goodIn_r _ [7] (by decide +kernel) (by decide +kernel)
set_option maxRecDepth 20000 in
theorem gX7_cell_X7_isSheet : GoodIn wsX7_cell (va_wsS RX7 49 yX7_isSheet wsX7_isSheet) := goodIn_app (goodIn_of _ (by decide +kernel)) ggX7_cell_X7_isSheet
set_option maxRecDepth 20000 in
theorem ggX7_cell_X7_isWithin : GoodIn wsX7_cell wsX7_isWithin := goodIn_r _ [10] (by decide +kernel) (by decide +kernel)
set_option maxRecDepth 20000 in
theorem gX7_cell_X7_isWithin : GoodIn wsX7_cell (va_wsS RX7 53 yX7_isWithin wsX7_isWithin) := goodIn_app (goodIn_of _ (by decide +kernel)) ggX7_cell_X7_isWithin
set_option maxRecDepth 20000 in
theorem ggX7_cell_X4_isOfLane : GoodIn wsX7_cell wsX4_isOfLane := goodIn_r _ [15, 16, 17, 18, 19, 14, 20, 21, 44, 45, 46] (by decide +kernel) (by decide +kernel)
set_option maxRecDepth 20000 in
theorem gX7_cell_X4_isOfLane : GoodIn wsX7_cell (wsV RX7 57 RX4 yX4_isOfLane wsX4_isOfLane) := goodIn_app (goodIn_of _ (by decide +kernel)) ggX7_cell_X4_isOfLane
set_option maxRecDepth 20000 in
theorem ggX7_cell_X7_lostBy : GoodIn wsX7_cell wsX7_lostBy := goodIn_r _ [25, 1, 2, 37, 38, 39, 40, 41, 42, 43] (by decide +kernel) (by decide +kernel)
set_option maxRecDepth 20000 in
theorem gX7_cell_X7_lostBy : GoodIn wsX7_cell (wsV RX7 179 RX7 yX7_lostBy wsX7_lostBy) := goodIn_app (goodIn_of _ (by decide +kernel)) ggX7_cell_X7_lostBy
set_option maxRecDepth 20000 in
theorem ggX7_cell_X4_hasNothing : GoodIn wsX7_cell wsX4_hasNothing := goodIn_r _ [20, 21, 44, 45, 46] (by decide +kernel) (by decide +kernel)
set_option maxRecDepth 20000 in
theorem gX7_cell_X4_hasNothing : GoodIn wsX7_cell (wsV RX7 64 RX4 yX4_hasNothing wsX4_hasNothing) := goodIn_app (goodIn_of _ (by decide +kernel)) ggX7_cell_X4_hasNothing
set_option maxRecDepth 20000 in
theorem ggX7_cell_X4_hasCell : GoodIn wsX7_cell wsX4_hasCell := goodIn_r _ [30, 21, 44, 45, 46] (by decide +kernel) (by decide +kernel)
set_option maxRecDepth 20000 in
theorem gX7_cell_X4_hasCell : GoodIn wsX7_cell (wsV RX7 173 RX4 yX4_hasCell wsX4_hasCell) := goodIn_app (goodIn_of _ (by decide +kernel)) ggX7_cell_X4_hasCell
set_option maxRecDepth 20000 in
theorem ggX7_cell_X4_valueAt : GoodIn wsX7_cell wsX4_valueAt := goodIn_r _ [34, 35, 36, 28, 29, 14, 30, 21, 44, 45, 46] (by decide +kernel) (by decide +kernel)
set_option maxRecDepth 20000 in
theorem gX7_cell_X4_valueAt : GoodIn wsX7_cell (wsV RX7 126 RX4 yX4_valueAt wsX4_valueAt) := goodIn_app (goodIn_of _ (by decide +kernel)) ggX7_cell_X4_valueAt
theorem dX7_cell_0 : decode cX7_cell 0 = .ok (.aload_n 0, 1) := by decide +kernel
theorem dX7_cell_1 : decode cX7_cell 1 = .ok (.iconst 0, 1) := by decide +kernel
theorem dX7_cell_2 : decode cX7_cell 2 = .ok (.putfield 45, 3) := by decide +kernel
theorem dX7_cell_5 : decode cX7_cell 5 = .ok (.iload_n 1, 1) := by decide +kernel
theorem dX7_cell_6 : decode cX7_cell 6 = .ok (.invokestatic 49, 3) := by decide +kernel
theorem dX7_cell_9 : decode cX7_cell 9 = .ok (.ifCond .eq 11, 3) := by decide +kernel
theorem dX7_cell_12 : decode cX7_cell 12 = .ok (.iload_n 3, 1) := by decide +kernel
theorem dX7_cell_13 : decode cX7_cell 13 = .ok (.iconst 2, 1) := by decide +kernel
theorem dX7_cell_14 : decode cX7_cell 14 = .ok (.invokestatic 53, 3) := by decide +kernel
theorem dX7_cell_17 : decode cX7_cell 17 = .ok (.ifCond .ne 7, 3) := by decide +kernel
theorem dX7_cell_20 : decode cX7_cell 20 = .ok (.ldc2_w 161, 3) := by decide +kernel
theorem dX7_cell_23 : decode cX7_cell 23 = .ok (.lreturn, 1) := by decide +kernel
theorem dX7_cell_24 : decode cX7_cell 24 = .ok (.aload_n 0, 1) := by decide +kernel
theorem dX7_cell_25 : decode cX7_cell 25 = .ok (.getfield 41, 3) := by decide +kernel
theorem dX7_cell_28 : decode cX7_cell 28 = .ok (.iload_n 1, 1) := by decide +kernel
theorem dX7_cell_29 : decode cX7_cell 29 = .ok (.aaload, 1) := by decide +kernel
theorem dX7_cell_30 : decode cX7_cell 30 = .ok (.astore 4, 2) := by decide +kernel
theorem dX7_cell_32 : decode cX7_cell 32 = .ok (.aload 4, 2) := by decide +kernel
theorem dX7_cell_34 : decode cX7_cell 34 = .ok (.iload_n 3, 1) := by decide +kernel
theorem dX7_cell_35 : decode cX7_cell 35 = .ok (.invokevirtual 57, 3) := by decide +kernel
theorem dX7_cell_38 : decode cX7_cell 38 = .ok (.ifCond .ne 9, 3) := by decide +kernel
theorem dX7_cell_41 : decode cX7_cell 41 = .ok (.aload_n 0, 1) := by decide +kernel
theorem dX7_cell_42 : decode cX7_cell 42 = .ok (.iconst 2, 1) := by decide +kernel
theorem dX7_cell_43 : decode cX7_cell 43 = .ok (.invokevirtual 179, 3) := by decide +kernel
theorem dX7_cell_46 : decode cX7_cell 46 = .ok (.lreturn, 1) := by decide +kernel
theorem dX7_cell_47 : decode cX7_cell 47 = .ok (.aload 4, 2) := by decide +kernel
theorem dX7_cell_49 : decode cX7_cell 49 = .ok (.invokevirtual 64, 3) := by decide +kernel
theorem dX7_cell_52 : decode cX7_cell 52 = .ok (.ifCond .eq 9, 3) := by decide +kernel
theorem dX7_cell_55 : decode cX7_cell 55 = .ok (.aload_n 0, 1) := by decide +kernel
theorem dX7_cell_56 : decode cX7_cell 56 = .ok (.iconst 1, 1) := by decide +kernel
theorem dX7_cell_57 : decode cX7_cell 57 = .ok (.invokevirtual 179, 3) := by decide +kernel
theorem dX7_cell_60 : decode cX7_cell 60 = .ok (.lreturn, 1) := by decide +kernel
theorem dX7_cell_61 : decode cX7_cell 61 = .ok (.aload 4, 2) := by decide +kernel
theorem dX7_cell_63 : decode cX7_cell 63 = .ok (.iload_n 2, 1) := by decide +kernel
theorem dX7_cell_64 : decode cX7_cell 64 = .ok (.invokevirtual 173, 3) := by decide +kernel
theorem dX7_cell_67 : decode cX7_cell 67 = .ok (.ifCond .ne 9, 3) := by decide +kernel
theorem dX7_cell_70 : decode cX7_cell 70 = .ok (.aload_n 0, 1) := by decide +kernel
theorem dX7_cell_71 : decode cX7_cell 71 = .ok (.iconst 3, 1) := by decide +kernel
theorem dX7_cell_72 : decode cX7_cell 72 = .ok (.invokevirtual 179, 3) := by decide +kernel
theorem dX7_cell_75 : decode cX7_cell 75 = .ok (.lreturn, 1) := by decide +kernel
theorem dX7_cell_76 : decode cX7_cell 76 = .ok (.aload 4, 2) := by decide +kernel
theorem dX7_cell_78 : decode cX7_cell 78 = .ok (.iload_n 2, 1) := by decide +kernel
theorem dX7_cell_79 : decode cX7_cell 79 = .ok (.invokevirtual 126, 3) := by decide +kernel
theorem dX7_cell_82 : decode cX7_cell 82 = .ok (.i2l, 1) := by decide +kernel
theorem dX7_cell_83 : decode cX7_cell 83 = .ok (.lreturn, 1) := by decide +kernel
set_option maxRecDepth 20000 in
theorem ggX7_copy_X7_isSheet : GoodIn wsX7_copy wsX7_isSheet := goodIn_r _ [10] (by decide +kernel) (by decide +kernel)
set_option maxRecDepth 20000 in
theorem gX7_copy_X7_isSheet : GoodIn wsX7_copy (va_wsS RX7 49 yX7_isSheet wsX7_isSheet) := goodIn_app (goodIn_of _ (by decide +kernel)) ggX7_copy_X7_isSheet
set_option maxRecDepth 20000 in
theorem ggX7_copy_X4_hasNothing : GoodIn wsX7_copy wsX4_hasNothing := goodIn_r _ [15, 16, 38, 39, 40] (by decide +kernel) (by decide +kernel)
set_option maxRecDepth 20000 in
theorem gX7_copy_X4_hasNothing : GoodIn wsX7_copy (wsV RX7 64 RX4 yX4_hasNothing wsX4_hasNothing) := goodIn_app (goodIn_of _ (by decide +kernel)) ggX7_copy_X4_hasNothing
set_option maxRecDepth 20000 in
theorem ggX7_copy_X7_faulted : GoodIn wsX7_copy wsX7_faulted := goodIn_r _ [20, 1, 31, 32, 33, 34, 35, 36, 37] (by decide +kernel) (by decide +kernel)
set_option maxRecDepth 20000 in
theorem gX7_copy_X7_faulted : GoodIn wsX7_copy (wsV RX7 60 RX7 yX7_faulted wsX7_faulted) := goodIn_app (goodIn_of _ (by decide +kernel)) ggX7_copy_X7_faulted
set_option maxRecDepth 20000 in
theorem ggX7_copy_X4_isOfLane : GoodIn wsX7_copy wsX4_isOfLane := goodIn_r _ [24, 25, 26, 12, 13, 14, 15, 16, 38, 39, 40] (by decide +kernel) (by decide +kernel)
set_option maxRecDepth 20000 in
theorem gX7_copy_X4_isOfLane : GoodIn wsX7_copy (wsV RX7 57 RX4 yX4_isOfLane wsX4_isOfLane) := goodIn_app (goodIn_of _ (by decide +kernel)) ggX7_copy_X4_isOfLane
set_option maxRecDepth 20000 in
theorem ggX7_copy_X4_hasCells : GoodIn wsX7_copy wsX4_hasCells := goodIn_r _ [30, 16, 38, 39, 40] (by decide +kernel) (by decide +kernel)
set_option maxRecDepth 20000 in
theorem gX7_copy_X4_hasCells : GoodIn wsX7_copy (wsV RX7 68 RX4 yX4_hasCells wsX4_hasCells) := goodIn_app (goodIn_of _ (by decide +kernel)) ggX7_copy_X4_hasCells
theorem dX7_copy_0 : decode cX7_copy 0 = .ok (.aload_n 0, 1) := by decide +kernel
theorem dX7_copy_1 : decode cX7_copy 1 = .ok (.iconst 0, 1) := by decide +kernel
theorem dX7_copy_2 : decode cX7_copy 2 = .ok (.putfield 45, 3) := by decide +kernel
theorem dX7_copy_5 : decode cX7_copy 5 = .ok (.iload_n 1, 1) := by decide +kernel
theorem dX7_copy_6 : decode cX7_copy 6 = .ok (.invokestatic 49, 3) := by decide +kernel
theorem dX7_copy_9 : decode cX7_copy 9 = .ok (.ifCond .eq 10, 3) := by decide +kernel
theorem dX7_copy_12 : decode cX7_copy 12 = .ok (.iload_n 3, 1) := by decide +kernel
theorem dX7_copy_13 : decode cX7_copy 13 = .ok (.invokestatic 49, 3) := by decide +kernel
theorem dX7_copy_16 : decode cX7_copy 16 = .ok (.ifCond .ne 5, 3) := by decide +kernel
theorem dX7_copy_19 : decode cX7_copy 19 = .ok (.iconst (-1), 1) := by decide +kernel
theorem dX7_copy_20 : decode cX7_copy 20 = .ok (.ireturn, 1) := by decide +kernel
theorem dX7_copy_21 : decode cX7_copy 21 = .ok (.aload_n 0, 1) := by decide +kernel
theorem dX7_copy_22 : decode cX7_copy 22 = .ok (.getfield 41, 3) := by decide +kernel
theorem dX7_copy_25 : decode cX7_copy 25 = .ok (.iload_n 1, 1) := by decide +kernel
theorem dX7_copy_26 : decode cX7_copy 26 = .ok (.aaload, 1) := by decide +kernel
theorem dX7_copy_27 : decode cX7_copy 27 = .ok (.astore 6, 2) := by decide +kernel
theorem dX7_copy_29 : decode cX7_copy 29 = .ok (.aload_n 0, 1) := by decide +kernel
theorem dX7_copy_30 : decode cX7_copy 30 = .ok (.getfield 41, 3) := by decide +kernel
theorem dX7_copy_33 : decode cX7_copy 33 = .ok (.iload_n 3, 1) := by decide +kernel
theorem dX7_copy_34 : decode cX7_copy 34 = .ok (.aaload, 1) := by decide +kernel
theorem dX7_copy_35 : decode cX7_copy 35 = .ok (.astore 7, 2) := by decide +kernel
theorem dX7_copy_37 : decode cX7_copy 37 = .ok (.aload 6, 2) := by decide +kernel
theorem dX7_copy_39 : decode cX7_copy 39 = .ok (.invokevirtual 64, 3) := by decide +kernel
theorem dX7_copy_42 : decode cX7_copy 42 = .ok (.ifCond .ne 11, 3) := by decide +kernel
theorem dX7_copy_45 : decode cX7_copy 45 = .ok (.aload 7, 2) := by decide +kernel
theorem dX7_copy_47 : decode cX7_copy 47 = .ok (.invokevirtual 64, 3) := by decide +kernel
theorem dX7_copy_50 : decode cX7_copy 50 = .ok (.ifCond .eq 9, 3) := by decide +kernel
theorem dX7_copy_53 : decode cX7_copy 53 = .ok (.aload_n 0, 1) := by decide +kernel
theorem dX7_copy_54 : decode cX7_copy 54 = .ok (.iconst 1, 1) := by decide +kernel
theorem dX7_copy_55 : decode cX7_copy 55 = .ok (.invokevirtual 60, 3) := by decide +kernel
theorem dX7_copy_58 : decode cX7_copy 58 = .ok (.ireturn, 1) := by decide +kernel
theorem dX7_copy_59 : decode cX7_copy 59 = .ok (.aload 6, 2) := by decide +kernel
theorem dX7_copy_61 : decode cX7_copy 61 = .ok (.aload 7, 2) := by decide +kernel
theorem dX7_copy_63 : decode cX7_copy 63 = .ok (.getfield 183, 3) := by decide +kernel
theorem dX7_copy_66 : decode cX7_copy 66 = .ok (.invokevirtual 57, 3) := by decide +kernel
theorem dX7_copy_69 : decode cX7_copy 69 = .ok (.ifCond .ne 9, 3) := by decide +kernel
theorem dX7_copy_72 : decode cX7_copy 72 = .ok (.aload_n 0, 1) := by decide +kernel
theorem dX7_copy_73 : decode cX7_copy 73 = .ok (.iconst 2, 1) := by decide +kernel
theorem dX7_copy_74 : decode cX7_copy 74 = .ok (.invokevirtual 60, 3) := by decide +kernel
theorem dX7_copy_77 : decode cX7_copy 77 = .ok (.ireturn, 1) := by decide +kernel
theorem dX7_copy_78 : decode cX7_copy 78 = .ok (.aload 6, 2) := by decide +kernel
theorem dX7_copy_80 : decode cX7_copy 80 = .ok (.iload_n 2, 1) := by decide +kernel
theorem dX7_copy_81 : decode cX7_copy 81 = .ok (.iload 5, 2) := by decide +kernel
theorem dX7_copy_83 : decode cX7_copy 83 = .ok (.invokevirtual 68, 3) := by decide +kernel
theorem dX7_copy_86 : decode cX7_copy 86 = .ok (.ifCond .eq 15, 3) := by decide +kernel
theorem dX7_copy_89 : decode cX7_copy 89 = .ok (.aload 7, 2) := by decide +kernel
theorem dX7_copy_91 : decode cX7_copy 91 = .ok (.iload 4, 2) := by decide +kernel
theorem dX7_copy_93 : decode cX7_copy 93 = .ok (.iload 5, 2) := by decide +kernel
theorem dX7_copy_95 : decode cX7_copy 95 = .ok (.invokevirtual 68, 3) := by decide +kernel
theorem dX7_copy_98 : decode cX7_copy 98 = .ok (.ifCond .ne 9, 3) := by decide +kernel
theorem dX7_copy_101 : decode cX7_copy 101 = .ok (.aload_n 0, 1) := by decide +kernel
theorem dX7_copy_102 : decode cX7_copy 102 = .ok (.iconst 3, 1) := by decide +kernel
theorem dX7_copy_103 : decode cX7_copy 103 = .ok (.invokevirtual 60, 3) := by decide +kernel
theorem dX7_copy_106 : decode cX7_copy 106 = .ok (.ireturn, 1) := by decide +kernel
theorem dX7_copy_107 : decode cX7_copy 107 = .ok (.aload 6, 2) := by decide +kernel
theorem dX7_copy_109 : decode cX7_copy 109 = .ok (.getfield 186, 3) := by decide +kernel
theorem dX7_copy_112 : decode cX7_copy 112 = .ok (.iload_n 2, 1) := by decide +kernel
theorem dX7_copy_113 : decode cX7_copy 113 = .ok (.aload 7, 2) := by decide +kernel
theorem dX7_copy_115 : decode cX7_copy 115 = .ok (.getfield 186, 3) := by decide +kernel
theorem dX7_copy_118 : decode cX7_copy 118 = .ok (.iload 4, 2) := by decide +kernel
theorem dX7_copy_120 : decode cX7_copy 120 = .ok (.iload 5, 2) := by decide +kernel
theorem dX7_copy_122 : decode cX7_copy 122 = .ok (.invokestatic 189, 3) := by decide +kernel
theorem dX7_copy_125 : decode cX7_copy 125 = .ok (.iload 5, 2) := by decide +kernel
theorem dX7_copy_127 : decode cX7_copy 127 = .ok (.ireturn, 1) := by decide +kernel
set_option maxRecDepth 20000 in
theorem ggX7_tell_X7_isPerson : GoodIn wsX7_tell wsX7_isPerson := goodIn_r _ [7, 1, 63, 64, 65, 66, 67, 68, 69, 70, 71, 72, 73, 74, 75, 76] (by decide +kernel) (by decide +kernel)
set_option maxRecDepth 20000 in
theorem gX7_tell_X7_isPerson : GoodIn wsX7_tell (wsV RX7 86 RX7 yX7_isPerson wsX7_isPerson) := goodIn_app (goodIn_of _ (by decide +kernel)) ggX7_tell_X7_isPerson
set_option maxRecDepth 20000 in
theorem ggX7_tell_X5_bodyOf : GoodIn wsX7_tell wsX5_bodyOf := goodIn_r _ [12, 13, 14, 70, 71, 72, 73, 74, 75, 76] (by decide +kernel) (by decide +kernel)
set_option maxRecDepth 20000 in
theorem gX7_tell_X5_bodyOf : GoodIn wsX7_tell (wsV RX7 195 RX5 yX5_bodyOf wsX5_bodyOf) := goodIn_app (goodIn_of _ (by decide +kernel)) ggX7_tell_X5_bodyOf
set_option maxRecDepth 20000 in
theorem ggX7_tell_X5_penceInAll : GoodIn wsX7_tell wsX5_penceInAll := goodIn_r _ [18, 19, 20, 70, 71, 72, 73, 74, 75, 76] (by decide +kernel) (by decide +kernel)
set_option maxRecDepth 20000 in
theorem gX7_tell_X5_penceInAll : GoodIn wsX7_tell (wsV RX7 93 RX5 yX5_penceInAll wsX5_penceInAll) := goodIn_app (goodIn_of _ (by decide +kernel)) ggX7_tell_X5_penceInAll
set_option maxRecDepth 20000 in
theorem ggX7_tell_X0_telling : GoodIn wsX7_tell wsX0_telling := goodIn_r _ [27, 28, 29, 30, 31, 32, 33, 34, 35, 36, 37, 38, 39, 40, 41, 42, 43, 44, 45, 46, 47, 48, 49, 50, 51, 77] (by decide +kernel) (by decide +kernel)
set_option maxRecDepth 20000 in
theorem gX7_tell_X0_telling_u199X0 : GoodIn wsX7_tell (va_wsO RX7 199 RX0 "DebtLamps$Person" ⟨"DebtLamps$Person", "telling", "(ILDebtLamps$Trail;)I"⟩ yX0_telling wsX0_telling) := goodIn_app (goodIn_of _ (by decide +kernel)) ggX7_tell_X0_telling
set_option maxRecDepth 20000 in
theorem ggX7_tell_X1_telling : GoodIn wsX7_tell wsX1_telling := goodIn_r _ [52, 56, 57, 58, 44, 45, 46, 47, 29, 30, 31, 32, 33, 59, 60, 61, 77] (by decide +kernel) (by decide +kernel)
set_option maxRecDepth 20000 in
theorem gX7_tell_X1_telling : GoodIn wsX7_tell (wsV RX7 199 RX1 yX1_telling wsX1_telling) := goodIn_app (goodIn_of _ (by decide +kernel)) ggX7_tell_X1_telling
set_option maxRecDepth 20000 in
theorem ggX7_tell_X3_telling : GoodIn wsX7_tell wsX3_telling := goodIn_r _ [39, 40, 29, 30, 31, 32, 33, 41, 42, 43, 44, 45, 46, 47, 48, 77] (by decide +kernel) (by decide +kernel)
set_option maxRecDepth 20000 in
theorem gX7_tell_X3_telling_u199X3 : GoodIn wsX7_tell (va_wsO RX7 199 RX3 "DebtLamps$Person" ⟨"DebtLamps$Person", "telling", "(ILDebtLamps$Trail;)I"⟩ yX3_telling wsX3_telling) := goodIn_app (goodIn_of _ (by decide +kernel)) ggX7_tell_X3_telling
theorem dX7_tell_0 : decode cX7_tell 0 = .ok (.aload_n 0, 1) := by decide +kernel
theorem dX7_tell_1 : decode cX7_tell 1 = .ok (.iload_n 1, 1) := by decide +kernel
theorem dX7_tell_2 : decode cX7_tell 2 = .ok (.invokevirtual 86, 3) := by decide +kernel
theorem dX7_tell_5 : decode cX7_tell 5 = .ok (.ifCond .ne 5, 3) := by decide +kernel
theorem dX7_tell_8 : decode cX7_tell 8 = .ok (.iconst (-1), 1) := by decide +kernel
theorem dX7_tell_9 : decode cX7_tell 9 = .ok (.ireturn, 1) := by decide +kernel
theorem dX7_tell_10 : decode cX7_tell 10 = .ok (.aload_n 0, 1) := by decide +kernel
theorem dX7_tell_11 : decode cX7_tell 11 = .ok (.getfield 12, 3) := by decide +kernel
theorem dX7_tell_14 : decode cX7_tell 14 = .ok (.iload_n 1, 1) := by decide +kernel
theorem dX7_tell_15 : decode cX7_tell 15 = .ok (.invokevirtual 195, 3) := by decide +kernel
theorem dX7_tell_18 : decode cX7_tell 18 = .ok (.aload_n 0, 1) := by decide +kernel
theorem dX7_tell_19 : decode cX7_tell 19 = .ok (.getfield 12, 3) := by decide +kernel
theorem dX7_tell_22 : decode cX7_tell 22 = .ok (.iload_n 1, 1) := by decide +kernel
theorem dX7_tell_23 : decode cX7_tell 23 = .ok (.invokevirtual 93, 3) := by decide +kernel
theorem dX7_tell_26 : decode cX7_tell 26 = .ok (.aload_n 0, 1) := by decide +kernel
theorem dX7_tell_27 : decode cX7_tell 27 = .ok (.getfield 27, 3) := by decide +kernel
theorem dX7_tell_30 : decode cX7_tell 30 = .ok (.invokevirtual 199, 3) := by decide +kernel
theorem dX7_tell_33 : decode cX7_tell 33 = .ok (.ireturn, 1) := by decide +kernel
set_option maxRecDepth 20000 in
theorem ggX7_hail_X7_isPerson : GoodIn wsX7_hail wsX7_isPerson := goodIn_r _ [7, 1, 35, 36, 37, 38, 39, 40, 41, 42, 43, 44, 45, 46, 47, 48] (by decide +kernel) (by decide +kernel)
set_option maxRecDepth 20000 in
theorem gX7_hail_X7_isPerson : GoodIn wsX7_hail (wsV RX7 86 RX7 yX7_isPerson wsX7_isPerson) := goodIn_app (goodIn_of _ (by decide +kernel)) ggX7_hail_X7_isPerson
set_option maxRecDepth 20000 in
theorem ggX7_hail_X5_bodyOf : GoodIn wsX7_hail wsX5_bodyOf := goodIn_r _ [12, 13, 14, 42, 43, 44, 45, 46, 47, 48] (by decide +kernel) (by decide +kernel)
set_option maxRecDepth 20000 in
theorem gX7_hail_X5_bodyOf : GoodIn wsX7_hail (wsV RX7 195 RX5 yX5_bodyOf wsX5_bodyOf) := goodIn_app (goodIn_of _ (by decide +kernel)) ggX7_hail_X5_bodyOf
set_option maxRecDepth 20000 in
theorem ggX7_hail_X0_hailing : GoodIn wsX7_hail wsX0_hailing := goodIn_r _ [21, 22, 23, 24, 25, 26, 27, 49] (by decide +kernel) (by decide +kernel)
set_option maxRecDepth 20000 in
theorem gX7_hail_X0_hailing_u205X0 : GoodIn wsX7_hail (va_wsO RX7 205 RX0 "DebtLamps$Person" ⟨"DebtLamps$Person", "hailing", "(ILDebtLamps$Trail;)I"⟩ yX0_hailing wsX0_hailing) := goodIn_app (goodIn_of _ (by decide +kernel)) ggX7_hail_X0_hailing
set_option maxRecDepth 20000 in
theorem ggX7_hail_X1_hailing : GoodIn wsX7_hail wsX1_hailing := goodIn_r _ [28, 33, 23, 24, 25, 26, 27, 49] (by decide +kernel) (by decide +kernel)
set_option maxRecDepth 20000 in
theorem gX7_hail_X1_hailing : GoodIn wsX7_hail (wsV RX7 205 RX1 yX1_hailing wsX1_hailing) := goodIn_app (goodIn_of _ (by decide +kernel)) ggX7_hail_X1_hailing
set_option maxRecDepth 20000 in
theorem gX7_hail_X1_hailing_u205X3 : GoodIn wsX7_hail (va_wsU RX7 205 RX3 "DebtLamps$Person" ⟨"DebtLamps$Person", "hailing", "(ILDebtLamps$Trail;)I"⟩ yX1_hailing wsX1_hailing) := goodIn_app (goodIn_of _ (by decide +kernel)) ggX7_hail_X1_hailing
theorem dX7_hail_0 : decode cX7_hail 0 = .ok (.aload_n 0, 1) := by decide +kernel
theorem dX7_hail_1 : decode cX7_hail 1 = .ok (.iload_n 1, 1) := by decide +kernel
theorem dX7_hail_2 : decode cX7_hail 2 = .ok (.invokevirtual 86, 3) := by decide +kernel
theorem dX7_hail_5 : decode cX7_hail 5 = .ok (.ifCond .ne 5, 3) := by decide +kernel
theorem dX7_hail_8 : decode cX7_hail 8 = .ok (.iconst (-1), 1) := by decide +kernel
theorem dX7_hail_9 : decode cX7_hail 9 = .ok (.ireturn, 1) := by decide +kernel
theorem dX7_hail_10 : decode cX7_hail 10 = .ok (.aload_n 0, 1) := by decide +kernel
theorem dX7_hail_11 : decode cX7_hail 11 = .ok (.getfield 12, 3) := by decide +kernel
theorem dX7_hail_14 : decode cX7_hail 14 = .ok (.iload_n 1, 1) := by decide +kernel
theorem dX7_hail_15 : decode cX7_hail 15 = .ok (.invokevirtual 195, 3) := by decide +kernel
theorem dX7_hail_18 : decode cX7_hail 18 = .ok (.iload_n 1, 1) := by decide +kernel
theorem dX7_hail_19 : decode cX7_hail 19 = .ok (.aload_n 0, 1) := by decide +kernel
theorem dX7_hail_20 : decode cX7_hail 20 = .ok (.getfield 27, 3) := by decide +kernel
theorem dX7_hail_23 : decode cX7_hail 23 = .ok (.invokevirtual 205, 3) := by decide +kernel
theorem dX7_hail_26 : decode cX7_hail 26 = .ok (.ireturn, 1) := by decide +kernel
set_option maxRecDepth 20000 in
theorem ggX7_as_X7_isPerson : GoodIn wsX7_as wsX7_isPerson := goodIn_r _ [7, 2, 15, 16, 17, 18, 19, 20, 21, 22, 23, 24, 25, 26, 27, 28] (by decide +kernel) (by decide +kernel)
set_option maxRecDepth 20000 in
theorem gX7_as_X7_isPerson : GoodIn wsX7_as (wsV RX7 86 RX7 yX7_isPerson wsX7_isPerson) := goodIn_app (goodIn_of _ (by decide +kernel)) ggX7_as_X7_isPerson
set_option maxRecDepth 20000 in
theorem ggX7_as_X7_isWithin : GoodIn wsX7_as wsX7_isWithin := goodIn_r _ [10] (by decide +kernel) (by decide +kernel)
set_option maxRecDepth 20000 in
theorem gX7_as_X7_isWithin : GoodIn wsX7_as (va_wsS RX7 53 yX7_isWithin wsX7_isWithin) := goodIn_app (goodIn_of _ (by decide +kernel)) ggX7_as_X7_isWithin
set_option maxRecDepth 20000 in
theorem ggX7_as_X7_faulted : GoodIn wsX7_as wsX7_faulted := goodIn_r _ [14, 1, 15, 16, 17, 18, 19, 20, 21] (by decide +kernel) (by decide +kernel)
set_option maxRecDepth 20000 in
theorem gX7_as_X7_faulted : GoodIn wsX7_as (wsV RX7 60 RX7 yX7_faulted wsX7_faulted) := goodIn_app (goodIn_of _ (by decide +kernel)) ggX7_as_X7_faulted
theorem dX7_as_0 : decode cX7_as 0 = .ok (.aload_n 0, 1) := by decide +kernel
theorem dX7_as_1 : decode cX7_as 1 = .ok (.iconst 0, 1) := by decide +kernel
theorem dX7_as_2 : decode cX7_as 2 = .ok (.putfield 45, 3) := by decide +kernel
theorem dX7_as_5 : decode cX7_as 5 = .ok (.aload_n 0, 1) := by decide +kernel
theorem dX7_as_6 : decode cX7_as 6 = .ok (.iload_n 1, 1) := by decide +kernel
theorem dX7_as_7 : decode cX7_as 7 = .ok (.invokevirtual 86, 3) := by decide +kernel
theorem dX7_as_10 : decode cX7_as 10 = .ok (.ifCond .ne 5, 3) := by decide +kernel
theorem dX7_as_13 : decode cX7_as 13 = .ok (.iconst (-1), 1) := by decide +kernel
theorem dX7_as_14 : decode cX7_as 14 = .ok (.ireturn, 1) := by decide +kernel
theorem dX7_as_15 : decode cX7_as 15 = .ok (.iload_n 2, 1) := by decide +kernel
theorem dX7_as_16 : decode cX7_as 16 = .ok (.iconst 2, 1) := by decide +kernel
theorem dX7_as_17 : decode cX7_as 17 = .ok (.invokestatic 53, 3) := by decide +kernel
theorem dX7_as_20 : decode cX7_as 20 = .ok (.ifCond .ne 6, 3) := by decide +kernel
theorem dX7_as_23 : decode cX7_as 23 = .ok (.bipush (-2), 2) := by decide +kernel
theorem dX7_as_25 : decode cX7_as 25 = .ok (.ireturn, 1) := by decide +kernel
theorem dX7_as_26 : decode cX7_as 26 = .ok (.aload_n 0, 1) := by decide +kernel
theorem dX7_as_27 : decode cX7_as 27 = .ok (.getfield 12, 3) := by decide +kernel
theorem dX7_as_30 : decode cX7_as 30 = .ok (.getfield 89, 3) := by decide +kernel
theorem dX7_as_33 : decode cX7_as 33 = .ok (.iload_n 1, 1) := by decide +kernel
theorem dX7_as_34 : decode cX7_as 34 = .ok (.iaload, 1) := by decide +kernel
theorem dX7_as_35 : decode cX7_as 35 = .ok (.iload_n 2, 1) := by decide +kernel
theorem dX7_as_36 : decode cX7_as 36 = .ok (.if_icmp .ge 9, 3) := by decide +kernel
theorem dX7_as_39 : decode cX7_as 39 = .ok (.aload_n 0, 1) := by decide +kernel
theorem dX7_as_40 : decode cX7_as 40 = .ok (.iconst 2, 1) := by decide +kernel
theorem dX7_as_41 : decode cX7_as 41 = .ok (.invokevirtual 60, 3) := by decide +kernel
theorem dX7_as_44 : decode cX7_as 44 = .ok (.ireturn, 1) := by decide +kernel
theorem dX7_as_45 : decode cX7_as 45 = .ok (.iconst 1, 1) := by decide +kernel
theorem dX7_as_46 : decode cX7_as 46 = .ok (.ireturn, 1) := by decide +kernel
theorem dX7_trace_0 : decode cX7_trace 0 = .ok (.aload_n 0, 1) := by decide +kernel
theorem dX7_trace_1 : decode cX7_trace 1 = .ok (.getfield 27, 3) := by decide +kernel
theorem dX7_trace_4 : decode cX7_trace 4 = .ok (.getfield 208, 3) := by decide +kernel
theorem dX7_trace_7 : decode cX7_trace 7 = .ok (.ireturn, 1) := by decide +kernel
theorem dX7_fault_0 : decode cX7_fault 0 = .ok (.aload_n 0, 1) := by decide +kernel
theorem dX7_fault_1 : decode cX7_fault 1 = .ok (.getfield 45, 3) := by decide +kernel
theorem dX7_fault_4 : decode cX7_fault 4 = .ok (.ireturn, 1) := by decide +kernel
set_option maxRecDepth 20000 in
theorem ggX7_many_X5_litLamps : GoodIn wsX7_many wsX5_litLamps := goodIn_r _ [7, 8, 9, 10, 11, 6, 12, 13, 14, 15, 16, 17, 18, 19, 20, 21, 22, 23, 24, 25, 26, 27, 28, 29, 30, 31, 32, 33, 34, 35, 50, 51, 52, 53, 54, 55, 56] (by decide +kernel) (by decide +kernel)
set_option maxRecDepth 20000 in
theorem gX7_many_X5_litLamps : GoodIn wsX7_many (wsV RX7 122 RX5 yX5_litLamps wsX5_litLamps) := goodIn_app (goodIn_of _ (by decide +kernel)) ggX7_many_X5_litLamps
set_option maxRecDepth 20000 in
theorem ggX7_many_J6_bitCount_0f7a4 : GoodIn wsX7_many wsJ6_bitCount_0f7a4 := goodIn_r _ [39, 40, 41, 42] (by decide +kernel) (by decide +kernel)
set_option maxRecDepth 20000 in
theorem gX7_many_J6_bitCount_0f7a4 : GoodIn wsX7_many (va_wsS RX7 211 yJ6_bitCount_0f7a4 wsJ6_bitCount_0f7a4) := goodIn_app (goodIn_of _ (by decide +kernel)) ggX7_many_J6_bitCount_0f7a4
theorem dX7_many_0 : decode cX7_many 0 = .ok (.iload_n 1, 1) := by decide +kernel
theorem dX7_many_1 : decode cX7_many 1 = .ok (.tableswitch 66 0 3 #[31, 39, 47, 58], 31) := by decide +kernel
theorem dX7_many_32 : decode cX7_many 32 = .ok (.aload_n 0, 1) := by decide +kernel
theorem dX7_many_33 : decode cX7_many 33 = .ok (.getfield 12, 3) := by decide +kernel
theorem dX7_many_36 : decode cX7_many 36 = .ok (.getfield 83, 3) := by decide +kernel
theorem dX7_many_39 : decode cX7_many 39 = .ok (.ireturn, 1) := by decide +kernel
theorem dX7_many_40 : decode cX7_many 40 = .ok (.aload_n 0, 1) := by decide +kernel
theorem dX7_many_41 : decode cX7_many 41 = .ok (.getfield 12, 3) := by decide +kernel
theorem dX7_many_44 : decode cX7_many 44 = .ok (.getfield 102, 3) := by decide +kernel
theorem dX7_many_47 : decode cX7_many 47 = .ok (.ireturn, 1) := by decide +kernel
theorem dX7_many_48 : decode cX7_many 48 = .ok (.aload_n 0, 1) := by decide +kernel
theorem dX7_many_49 : decode cX7_many 49 = .ok (.getfield 12, 3) := by decide +kernel
theorem dX7_many_52 : decode cX7_many 52 = .ok (.invokevirtual 122, 3) := by decide +kernel
theorem dX7_many_55 : decode cX7_many 55 = .ok (.invokestatic 211, 3) := by decide +kernel
theorem dX7_many_58 : decode cX7_many 58 = .ok (.ireturn, 1) := by decide +kernel
theorem dX7_many_59 : decode cX7_many 59 = .ok (.aload_n 0, 1) := by decide +kernel
theorem dX7_many_60 : decode cX7_many 60 = .ok (.getfield 34, 3) := by decide +kernel
theorem dX7_many_63 : decode cX7_many 63 = .ok (.getfield 154, 3) := by decide +kernel
theorem dX7_many_66 : decode cX7_many 66 = .ok (.ireturn, 1) := by decide +kernel
theorem dX7_many_67 : decode cX7_many 67 = .ok (.bipush (-2), 2) := by decide +kernel
theorem dX7_many_69 : decode cX7_many 69 = .ok (.ireturn, 1) := by decide +kernel
theorem dX7_hasTown_0 : decode cX7_hasTown 0 = .ok (.aload_n 0, 1) := by decide +kernel
theorem dX7_hasTown_1 : decode cX7_hasTown 1 = .ok (.getfield 12, 3) := by decide +kernel
theorem dX7_hasTown_4 : decode cX7_hasTown 4 = .ok (.getfield 83, 3) := by decide +kernel
theorem dX7_hasTown_7 : decode cX7_hasTown 7 = .ok (.ifCond .le 7, 3) := by decide +kernel
theorem dX7_hasTown_10 : decode cX7_hasTown 10 = .ok (.iconst 1, 1) := by decide +kernel
theorem dX7_hasTown_11 : decode cX7_hasTown 11 = .ok (.goto 4, 3) := by decide +kernel
theorem dX7_hasTown_14 : decode cX7_hasTown 14 = .ok (.iconst 0, 1) := by decide +kernel
theorem dX7_hasTown_15 : decode cX7_hasTown 15 = .ok (.ireturn, 1) := by decide +kernel
theorem dX7_isPerson_0 : decode cX7_isPerson 0 = .ok (.iload_n 1, 1) := by decide +kernel
theorem dX7_isPerson_1 : decode cX7_isPerson 1 = .ok (.ifCond .lt 18, 3) := by decide +kernel
theorem dX7_isPerson_4 : decode cX7_isPerson 4 = .ok (.iload_n 1, 1) := by decide +kernel
theorem dX7_isPerson_5 : decode cX7_isPerson 5 = .ok (.aload_n 0, 1) := by decide +kernel
theorem dX7_isPerson_6 : decode cX7_isPerson 6 = .ok (.getfield 12, 3) := by decide +kernel
theorem dX7_isPerson_9 : decode cX7_isPerson 9 = .ok (.getfield 83, 3) := by decide +kernel
theorem dX7_isPerson_12 : decode cX7_isPerson 12 = .ok (.if_icmp .ge 7, 3) := by decide +kernel
theorem dX7_isPerson_15 : decode cX7_isPerson 15 = .ok (.iconst 1, 1) := by decide +kernel
theorem dX7_isPerson_16 : decode cX7_isPerson 16 = .ok (.goto 4, 3) := by decide +kernel
theorem dX7_isPerson_19 : decode cX7_isPerson 19 = .ok (.iconst 0, 1) := by decide +kernel
theorem dX7_isPerson_20 : decode cX7_isPerson 20 = .ok (.ireturn, 1) := by decide +kernel
theorem dX7_isSheet_0 : decode cX7_isSheet 0 = .ok (.iload_n 0, 1) := by decide +kernel
theorem dX7_isSheet_1 : decode cX7_isSheet 1 = .ok (.ifCond .lt 12, 3) := by decide +kernel
theorem dX7_isSheet_4 : decode cX7_isSheet 4 = .ok (.iload_n 0, 1) := by decide +kernel
theorem dX7_isSheet_5 : decode cX7_isSheet 5 = .ok (.iconst 4, 1) := by decide +kernel
theorem dX7_isSheet_6 : decode cX7_isSheet 6 = .ok (.if_icmp .ge 7, 3) := by decide +kernel
theorem dX7_isSheet_9 : decode cX7_isSheet 9 = .ok (.iconst 1, 1) := by decide +kernel
theorem dX7_isSheet_10 : decode cX7_isSheet 10 = .ok (.goto 4, 3) := by decide +kernel
theorem dX7_isSheet_13 : decode cX7_isSheet 13 = .ok (.iconst 0, 1) := by decide +kernel
theorem dX7_isSheet_14 : decode cX7_isSheet 14 = .ok (.ireturn, 1) := by decide +kernel
theorem dX7_isWithin_0 : decode cX7_isWithin 0 = .ok (.iload_n 0, 1) := by decide +kernel
theorem dX7_isWithin_1 : decode cX7_isWithin 1 = .ok (.ifCond .lt 12, 3) := by decide +kernel
theorem dX7_isWithin_4 : decode cX7_isWithin 4 = .ok (.iload_n 0, 1) := by decide +kernel
theorem dX7_isWithin_5 : decode cX7_isWithin 5 = .ok (.iload_n 1, 1) := by decide +kernel
theorem dX7_isWithin_6 : decode cX7_isWithin 6 = .ok (.if_icmp .gt 7, 3) := by decide +kernel
theorem dX7_isWithin_9 : decode cX7_isWithin 9 = .ok (.iconst 1, 1) := by decide +kernel
theorem dX7_isWithin_10 : decode cX7_isWithin 10 = .ok (.goto 4, 3) := by decide +kernel
theorem dX7_isWithin_13 : decode cX7_isWithin 13 = .ok (.iconst 0, 1) := by decide +kernel
theorem dX7_isWithin_14 : decode cX7_isWithin 14 = .ok (.ireturn, 1) := by decide +kernel
theorem dX7_faulted_0 : decode cX7_faulted 0 = .ok (.aload_n 0, 1) := by decide +kernel
theorem dX7_faulted_1 : decode cX7_faulted 1 = .ok (.iload_n 1, 1) := by decide +kernel
theorem dX7_faulted_2 : decode cX7_faulted 2 = .ok (.putfield 45, 3) := by decide +kernel
theorem dX7_faulted_5 : decode cX7_faulted 5 = .ok (.bipush (-10), 2) := by decide +kernel
theorem dX7_faulted_7 : decode cX7_faulted 7 = .ok (.iload_n 1, 1) := by decide +kernel
theorem dX7_faulted_8 : decode cX7_faulted 8 = .ok (.isub, 1) := by decide +kernel
theorem dX7_faulted_9 : decode cX7_faulted 9 = .ok (.ireturn, 1) := by decide +kernel
theorem dX7_lostBy_0 : decode cX7_lostBy 0 = .ok (.aload_n 0, 1) := by decide +kernel
theorem dX7_lostBy_1 : decode cX7_lostBy 1 = .ok (.iload_n 1, 1) := by decide +kernel
theorem dX7_lostBy_2 : decode cX7_lostBy 2 = .ok (.putfield 45, 3) := by decide +kernel
theorem dX7_lostBy_5 : decode cX7_lostBy 5 = .ok (.ldc2_w 161, 3) := by decide +kernel
theorem dX7_lostBy_8 : decode cX7_lostBy 8 = .ok (.lreturn, 1) := by decide +kernel
