theorem dX8_init_0 : decode cX8_init 0 = .ok (.aload_n 0, 1) := by decide +kernel
theorem dX8_init_1 : decode cX8_init 1 = .ok (.invokespecial 1, 3) := by decide +kernel
theorem dX8_init_4 : decode cX8_init 4 = .ok (.aload_n 0, 1) := by decide +kernel
theorem dX8_init_5 : decode cX8_init 5 = .ok (.iconst 4, 1) := by decide +kernel
theorem dX8_init_6 : decode cX8_init 6 = .ok (.newarray .int, 2) := by decide +kernel
theorem dX8_init_8 : decode cX8_init 8 = .ok (.dup, 1) := by decide +kernel
theorem dX8_init_9 : decode cX8_init 9 = .ok (.iconst 0, 1) := by decide +kernel
theorem dX8_init_10 : decode cX8_init 10 = .ok (.bipush (-9), 2) := by decide +kernel
theorem dX8_init_12 : decode cX8_init 12 = .ok (.iastore, 1) := by decide +kernel
theorem dX8_init_13 : decode cX8_init 13 = .ok (.dup, 1) := by decide +kernel
theorem dX8_init_14 : decode cX8_init 14 = .ok (.iconst 1, 1) := by decide +kernel
theorem dX8_init_15 : decode cX8_init 15 = .ok (.bipush (-9), 2) := by decide +kernel
theorem dX8_init_17 : decode cX8_init 17 = .ok (.iastore, 1) := by decide +kernel
theorem dX8_init_18 : decode cX8_init 18 = .ok (.dup, 1) := by decide +kernel
theorem dX8_init_19 : decode cX8_init 19 = .ok (.iconst 2, 1) := by decide +kernel
theorem dX8_init_20 : decode cX8_init 20 = .ok (.bipush (-9), 2) := by decide +kernel
theorem dX8_init_22 : decode cX8_init 22 = .ok (.iastore, 1) := by decide +kernel
theorem dX8_init_23 : decode cX8_init 23 = .ok (.dup, 1) := by decide +kernel
theorem dX8_init_24 : decode cX8_init 24 = .ok (.iconst 3, 1) := by decide +kernel
theorem dX8_init_25 : decode cX8_init 25 = .ok (.bipush (-9), 2) := by decide +kernel
theorem dX8_init_27 : decode cX8_init 27 = .ok (.iastore, 1) := by decide +kernel
theorem dX8_init_28 : decode cX8_init 28 = .ok (.putfield 9, 3) := by decide +kernel
theorem dX8_init_31 : decode cX8_init 31 = .ok (.aload_n 0, 1) := by decide +kernel
theorem dX8_init_32 : decode cX8_init 32 = .ok (.iconst 4, 1) := by decide +kernel
theorem dX8_init_33 : decode cX8_init 33 = .ok (.newarray .int, 2) := by decide +kernel
theorem dX8_init_35 : decode cX8_init 35 = .ok (.putfield 13, 3) := by decide +kernel
theorem dX8_init_38 : decode cX8_init 38 = .ok (.aload_n 0, 1) := by decide +kernel
theorem dX8_init_39 : decode cX8_init 39 = .ok (.sipush 240, 3) := by decide +kernel
theorem dX8_init_42 : decode cX8_init 42 = .ok (.newarray .int, 2) := by decide +kernel
theorem dX8_init_44 : decode cX8_init 44 = .ok (.putfield 16, 3) := by decide +kernel
theorem dX8_init_47 : decode cX8_init 47 = .ok (.aload_n 0, 1) := by decide +kernel
theorem dX8_init_48 : decode cX8_init 48 = .ok (.bipush 6, 2) := by decide +kernel
theorem dX8_init_50 : decode cX8_init 50 = .ok (.newarray .int, 2) := by decide +kernel
theorem dX8_init_52 : decode cX8_init 52 = .ok (.putfield 19, 3) := by decide +kernel
theorem dX8_init_55 : decode cX8_init 55 = .ok (.aload_n 0, 1) := by decide +kernel
theorem dX8_init_56 : decode cX8_init 56 = .ok (.bipush 36, 2) := by decide +kernel
theorem dX8_init_58 : decode cX8_init 58 = .ok (.newarray .int, 2) := by decide +kernel
theorem dX8_init_60 : decode cX8_init 60 = .ok (.putfield 22, 3) := by decide +kernel
theorem dX8_init_63 : decode cX8_init 63 = .ok (.aload_n 0, 1) := by decide +kernel
theorem dX8_init_64 : decode cX8_init 64 = .ok (.bipush 6, 2) := by decide +kernel
theorem dX8_init_66 : decode cX8_init 66 = .ok (.newarray .int, 2) := by decide +kernel
theorem dX8_init_68 : decode cX8_init 68 = .ok (.putfield 25, 3) := by decide +kernel
theorem dX8_init_71 : decode cX8_init 71 = .ok (.aload_n 0, 1) := by decide +kernel
theorem dX8_init_72 : decode cX8_init 72 = .ok (.bipush 36, 2) := by decide +kernel
theorem dX8_init_74 : decode cX8_init 74 = .ok (.newarray .int, 2) := by decide +kernel
theorem dX8_init_76 : decode cX8_init 76 = .ok (.putfield 28, 3) := by decide +kernel
theorem dX8_init_79 : decode cX8_init 79 = .ok (.aload_n 0, 1) := by decide +kernel
theorem dX8_init_80 : decode cX8_init 80 = .ok (.bipush 6, 2) := by decide +kernel
theorem dX8_init_82 : decode cX8_init 82 = .ok (.newarray .int, 2) := by decide +kernel
theorem dX8_init_84 : decode cX8_init 84 = .ok (.putfield 31, 3) := by decide +kernel
theorem dX8_init_87 : decode cX8_init 87 = .ok (.aload_n 0, 1) := by decide +kernel
theorem dX8_init_88 : decode cX8_init 88 = .ok (.bipush 6, 2) := by decide +kernel
theorem dX8_init_90 : decode cX8_init 90 = .ok (.newarray .boolean, 2) := by decide +kernel
theorem dX8_init_92 : decode cX8_init 92 = .ok (.putfield 34, 3) := by decide +kernel
theorem dX8_init_95 : decode cX8_init 95 = .ok (.aload_n 0, 1) := by decide +kernel
theorem dX8_init_96 : decode cX8_init 96 = .ok (.bipush 36, 2) := by decide +kernel
theorem dX8_init_98 : decode cX8_init 98 = .ok (.newarray .int, 2) := by decide +kernel
theorem dX8_init_100 : decode cX8_init 100 = .ok (.putfield 38, 3) := by decide +kernel
theorem dX8_init_103 : decode cX8_init 103 = .ok (.aload_n 0, 1) := by decide +kernel
theorem dX8_init_104 : decode cX8_init 104 = .ok (.bipush 8, 2) := by decide +kernel
theorem dX8_init_106 : decode cX8_init 106 = .ok (.newarray .int, 2) := by decide +kernel
theorem dX8_init_108 : decode cX8_init 108 = .ok (.putfield 41, 3) := by decide +kernel
theorem dX8_init_111 : decode cX8_init 111 = .ok (.aload_n 0, 1) := by decide +kernel
theorem dX8_init_112 : decode cX8_init 112 = .ok (.bipush 8, 2) := by decide +kernel
theorem dX8_init_114 : decode cX8_init 114 = .ok (.newarray .int, 2) := by decide +kernel
theorem dX8_init_116 : decode cX8_init 116 = .ok (.putfield 44, 3) := by decide +kernel
theorem dX8_init_119 : decode cX8_init 119 = .ok (.aload_n 0, 1) := by decide +kernel
theorem dX8_init_120 : decode cX8_init 120 = .ok (.bipush 8, 2) := by decide +kernel
theorem dX8_init_122 : decode cX8_init 122 = .ok (.newarray .int, 2) := by decide +kernel
theorem dX8_init_124 : decode cX8_init 124 = .ok (.putfield 47, 3) := by decide +kernel
theorem dX8_init_127 : decode cX8_init 127 = .ok (.return_, 1) := by decide +kernel
theorem dX8_fails_0 : decode cX8_fails 0 = .ok (.aload_n 0, 1) := by decide +kernel
theorem dX8_fails_1 : decode cX8_fails 1 = .ok (.iload_n 1, 1) := by decide +kernel
theorem dX8_fails_2 : decode cX8_fails 2 = .ok (.putfield 50, 3) := by decide +kernel
theorem dX8_fails_5 : decode cX8_fails 5 = .ok (.bipush (-10), 2) := by decide +kernel
theorem dX8_fails_7 : decode cX8_fails 7 = .ok (.iload_n 1, 1) := by decide +kernel
theorem dX8_fails_8 : decode cX8_fails 8 = .ok (.isub, 1) := by decide +kernel
theorem dX8_fails_9 : decode cX8_fails 9 = .ok (.ireturn, 1) := by decide +kernel
theorem dX8_lost_0 : decode cX8_lost 0 = .ok (.aload_n 0, 1) := by decide +kernel
theorem dX8_lost_1 : decode cX8_lost 1 = .ok (.iload_n 1, 1) := by decide +kernel
theorem dX8_lost_2 : decode cX8_lost 2 = .ok (.putfield 50, 3) := by decide +kernel
theorem dX8_lost_5 : decode cX8_lost 5 = .ok (.ldc2_w 54, 3) := by decide +kernel
theorem dX8_lost_8 : decode cX8_lost 8 = .ok (.lreturn, 1) := by decide +kernel
theorem dX8_within_0 : decode cX8_within 0 = .ok (.iload_n 0, 1) := by decide +kernel
theorem dX8_within_1 : decode cX8_within 1 = .ok (.iload_n 1, 1) := by decide +kernel
theorem dX8_within_2 : decode cX8_within 2 = .ok (.if_icmp .lt 12, 3) := by decide +kernel
theorem dX8_within_5 : decode cX8_within 5 = .ok (.iload_n 0, 1) := by decide +kernel
theorem dX8_within_6 : decode cX8_within 6 = .ok (.iload_n 2, 1) := by decide +kernel
theorem dX8_within_7 : decode cX8_within 7 = .ok (.if_icmp .gt 7, 3) := by decide +kernel
theorem dX8_within_10 : decode cX8_within 10 = .ok (.iconst 1, 1) := by decide +kernel
theorem dX8_within_11 : decode cX8_within 11 = .ok (.goto 4, 3) := by decide +kernel
theorem dX8_within_14 : decode cX8_within 14 = .ok (.iconst 0, 1) := by decide +kernel
theorem dX8_within_15 : decode cX8_within 15 = .ok (.ireturn, 1) := by decide +kernel
set_option maxRecDepth 20000 in
theorem ggX8_isSheet_X8_within : GoodIn wsX8_isSheet wsX8_within := goodIn_r _ [4] (by decide +kernel) (by decide +kernel)
set_option maxRecDepth 20000 in
theorem gX8_isSheet_X8_within : GoodIn wsX8_isSheet (va_wsS RX8 56 yX8_within wsX8_within) := goodIn_app (goodIn_of _ (by decide +kernel)) ggX8_isSheet_X8_within
theorem dX8_isSheet_0 : decode cX8_isSheet 0 = .ok (.iload_n 0, 1) := by decide +kernel
theorem dX8_isSheet_1 : decode cX8_isSheet 1 = .ok (.iconst 0, 1) := by decide +kernel
theorem dX8_isSheet_2 : decode cX8_isSheet 2 = .ok (.iconst 3, 1) := by decide +kernel
theorem dX8_isSheet_3 : decode cX8_isSheet 3 = .ok (.invokestatic 56, 3) := by decide +kernel
theorem dX8_isSheet_6 : decode cX8_isSheet 6 = .ok (.ireturn, 1) := by decide +kernel
set_option maxRecDepth 20000 in
theorem ggX8_isSort_X8_within : GoodIn wsX8_isSort wsX8_within := goodIn_r _ [4] (by decide +kernel) (by decide +kernel)
set_option maxRecDepth 20000 in
theorem gX8_isSort_X8_within : GoodIn wsX8_isSort (va_wsS RX8 56 yX8_within wsX8_within) := goodIn_app (goodIn_of _ (by decide +kernel)) ggX8_isSort_X8_within
theorem dX8_isSort_0 : decode cX8_isSort 0 = .ok (.iload_n 0, 1) := by decide +kernel
theorem dX8_isSort_1 : decode cX8_isSort 1 = .ok (.iconst 0, 1) := by decide +kernel
theorem dX8_isSort_2 : decode cX8_isSort 2 = .ok (.iconst 2, 1) := by decide +kernel
theorem dX8_isSort_3 : decode cX8_isSort 3 = .ok (.invokestatic 56, 3) := by decide +kernel
theorem dX8_isSort_6 : decode cX8_isSort 6 = .ok (.ireturn, 1) := by decide +kernel
theorem dX8_against_0 : decode cX8_against 0 = .ok (.aload_n 0, 1) := by decide +kernel
theorem dX8_against_1 : decode cX8_against 1 = .ok (.getfield 9, 3) := by decide +kernel
theorem dX8_against_4 : decode cX8_against 4 = .ok (.iload_n 1, 1) := by decide +kernel
theorem dX8_against_5 : decode cX8_against 5 = .ok (.iaload, 1) := by decide +kernel
theorem dX8_against_6 : decode cX8_against 6 = .ok (.bipush (-9), 2) := by decide +kernel
theorem dX8_against_8 : decode cX8_against 8 = .ok (.if_icmp .eq 15, 3) := by decide +kernel
theorem dX8_against_11 : decode cX8_against 11 = .ok (.aload_n 0, 1) := by decide +kernel
theorem dX8_against_12 : decode cX8_against 12 = .ok (.getfield 9, 3) := by decide +kernel
theorem dX8_against_15 : decode cX8_against 15 = .ok (.iload_n 1, 1) := by decide +kernel
theorem dX8_against_16 : decode cX8_against 16 = .ok (.iaload, 1) := by decide +kernel
theorem dX8_against_17 : decode cX8_against 17 = .ok (.iload_n 2, 1) := by decide +kernel
theorem dX8_against_18 : decode cX8_against 18 = .ok (.if_icmp .eq 5, 3) := by decide +kernel
theorem dX8_against_21 : decode cX8_against 21 = .ok (.iconst 2, 1) := by decide +kernel
theorem dX8_against_22 : decode cX8_against 22 = .ok (.ireturn, 1) := by decide +kernel
theorem dX8_against_23 : decode cX8_against 23 = .ok (.aload_n 0, 1) := by decide +kernel
theorem dX8_against_24 : decode cX8_against 24 = .ok (.getfield 9, 3) := by decide +kernel
theorem dX8_against_27 : decode cX8_against 27 = .ok (.iload_n 1, 1) := by decide +kernel
theorem dX8_against_28 : decode cX8_against 28 = .ok (.iaload, 1) := by decide +kernel
theorem dX8_against_29 : decode cX8_against 29 = .ok (.bipush (-9), 2) := by decide +kernel
theorem dX8_against_31 : decode cX8_against 31 = .ok (.if_icmp .ne 5, 3) := by decide +kernel
theorem dX8_against_34 : decode cX8_against 34 = .ok (.iconst 1, 1) := by decide +kernel
theorem dX8_against_35 : decode cX8_against 35 = .ok (.ireturn, 1) := by decide +kernel
theorem dX8_against_36 : decode cX8_against 36 = .ok (.iload 4, 2) := by decide +kernel
theorem dX8_against_38 : decode cX8_against 38 = .ok (.ifCond .ge 5, 3) := by decide +kernel
theorem dX8_against_41 : decode cX8_against 41 = .ok (.iconst 4, 1) := by decide +kernel
theorem dX8_against_42 : decode cX8_against 42 = .ok (.ireturn, 1) := by decide +kernel
theorem dX8_against_43 : decode cX8_against 43 = .ok (.iload_n 3, 1) := by decide +kernel
theorem dX8_against_44 : decode cX8_against 44 = .ok (.ifCond .lt 26, 3) := by decide +kernel
theorem dX8_against_47 : decode cX8_against 47 = .ok (.iload_n 3, 1) := by decide +kernel
theorem dX8_against_48 : decode cX8_against 48 = .ok (.aload_n 0, 1) := by decide +kernel
theorem dX8_against_49 : decode cX8_against 49 = .ok (.getfield 13, 3) := by decide +kernel
theorem dX8_against_52 : decode cX8_against 52 = .ok (.iload_n 1, 1) := by decide +kernel
theorem dX8_against_53 : decode cX8_against 53 = .ok (.iaload, 1) := by decide +kernel
theorem dX8_against_54 : decode cX8_against 54 = .ok (.if_icmp .gt 16, 3) := by decide +kernel
theorem dX8_against_57 : decode cX8_against 57 = .ok (.iload 4, 2) := by decide +kernel
theorem dX8_against_59 : decode cX8_against 59 = .ok (.aload_n 0, 1) := by decide +kernel
theorem dX8_against_60 : decode cX8_against 60 = .ok (.getfield 13, 3) := by decide +kernel
theorem dX8_against_63 : decode cX8_against 63 = .ok (.iload_n 1, 1) := by decide +kernel
theorem dX8_against_64 : decode cX8_against 64 = .ok (.iaload, 1) := by decide +kernel
theorem dX8_against_65 : decode cX8_against 65 = .ok (.iload_n 3, 1) := by decide +kernel
theorem dX8_against_66 : decode cX8_against 66 = .ok (.isub, 1) := by decide +kernel
theorem dX8_against_67 : decode cX8_against 67 = .ok (.if_icmp .le 7, 3) := by decide +kernel
theorem dX8_against_70 : decode cX8_against 70 = .ok (.iconst 3, 1) := by decide +kernel
theorem dX8_against_71 : decode cX8_against 71 = .ok (.goto 4, 3) := by decide +kernel
theorem dX8_against_74 : decode cX8_against 74 = .ok (.iconst 0, 1) := by decide +kernel
theorem dX8_against_75 : decode cX8_against 75 = .ok (.ireturn, 1) := by decide +kernel
theorem dX8_isPerson_0 : decode cX8_isPerson 0 = .ok (.iload_n 1, 1) := by decide +kernel
theorem dX8_isPerson_1 : decode cX8_isPerson 1 = .ok (.ifCond .lt 15, 3) := by decide +kernel
theorem dX8_isPerson_4 : decode cX8_isPerson 4 = .ok (.iload_n 1, 1) := by decide +kernel
theorem dX8_isPerson_5 : decode cX8_isPerson 5 = .ok (.aload_n 0, 1) := by decide +kernel
theorem dX8_isPerson_6 : decode cX8_isPerson 6 = .ok (.getfield 60, 3) := by decide +kernel
theorem dX8_isPerson_9 : decode cX8_isPerson 9 = .ok (.if_icmp .ge 7, 3) := by decide +kernel
theorem dX8_isPerson_12 : decode cX8_isPerson 12 = .ok (.iconst 1, 1) := by decide +kernel
theorem dX8_isPerson_13 : decode cX8_isPerson 13 = .ok (.goto 4, 3) := by decide +kernel
theorem dX8_isPerson_16 : decode cX8_isPerson 16 = .ok (.iconst 0, 1) := by decide +kernel
theorem dX8_isPerson_17 : decode cX8_isPerson 17 = .ok (.ireturn, 1) := by decide +kernel
set_option maxRecDepth 20000 in
theorem ggX8_areTwo_X8_isPerson : GoodIn wsX8_areTwo wsX8_isPerson := goodIn_r _ [5, 6, 7, 8, 9, 10, 11, 12, 13, 14, 15, 16, 17, 18, 19, 20, 21, 22, 23, 24, 25, 26, 27] (by decide +kernel) (by decide +kernel)
set_option maxRecDepth 20000 in
theorem gX8_areTwo_X8_isPerson : GoodIn wsX8_areTwo (wsV RX8 63 RX8 yX8_isPerson wsX8_isPerson) := goodIn_app (goodIn_of _ (by decide +kernel)) ggX8_areTwo_X8_isPerson
theorem dX8_areTwo_0 : decode cX8_areTwo 0 = .ok (.aload_n 0, 1) := by decide +kernel
theorem dX8_areTwo_1 : decode cX8_areTwo 1 = .ok (.iload_n 1, 1) := by decide +kernel
theorem dX8_areTwo_2 : decode cX8_areTwo 2 = .ok (.invokevirtual 63, 3) := by decide +kernel
theorem dX8_areTwo_5 : decode cX8_areTwo 5 = .ok (.ifCond .eq 20, 3) := by decide +kernel
theorem dX8_areTwo_8 : decode cX8_areTwo 8 = .ok (.aload_n 0, 1) := by decide +kernel
theorem dX8_areTwo_9 : decode cX8_areTwo 9 = .ok (.iload_n 2, 1) := by decide +kernel
theorem dX8_areTwo_10 : decode cX8_areTwo 10 = .ok (.invokevirtual 63, 3) := by decide +kernel
theorem dX8_areTwo_13 : decode cX8_areTwo 13 = .ok (.ifCond .eq 12, 3) := by decide +kernel
theorem dX8_areTwo_16 : decode cX8_areTwo 16 = .ok (.iload_n 1, 1) := by decide +kernel
theorem dX8_areTwo_17 : decode cX8_areTwo 17 = .ok (.iload_n 2, 1) := by decide +kernel
theorem dX8_areTwo_18 : decode cX8_areTwo 18 = .ok (.if_icmp .eq 7, 3) := by decide +kernel
theorem dX8_areTwo_21 : decode cX8_areTwo 21 = .ok (.iconst 1, 1) := by decide +kernel
theorem dX8_areTwo_22 : decode cX8_areTwo 22 = .ok (.goto 4, 3) := by decide +kernel
theorem dX8_areTwo_25 : decode cX8_areTwo 25 = .ok (.iconst 0, 1) := by decide +kernel
theorem dX8_areTwo_26 : decode cX8_areTwo 26 = .ok (.ireturn, 1) := by decide +kernel
theorem dX8_spot_0 : decode cX8_spot 0 = .ok (.bipush 6, 2) := by decide +kernel
theorem dX8_spot_2 : decode cX8_spot 2 = .ok (.iload_n 0, 1) := by decide +kernel
theorem dX8_spot_3 : decode cX8_spot 3 = .ok (.imul, 1) := by decide +kernel
theorem dX8_spot_4 : decode cX8_spot 4 = .ok (.iload_n 1, 1) := by decide +kernel
theorem dX8_spot_5 : decode cX8_spot 5 = .ok (.iadd, 1) := by decide +kernel
theorem dX8_spot_6 : decode cX8_spot 6 = .ok (.ireturn, 1) := by decide +kernel
set_option maxRecDepth 20000 in
theorem ggX8_digit_X8_within : GoodIn wsX8_digit wsX8_within := goodIn_r _ [6] (by decide +kernel) (by decide +kernel)
set_option maxRecDepth 20000 in
theorem gX8_digit_X8_within : GoodIn wsX8_digit (va_wsS RX8 56 yX8_within wsX8_within) := goodIn_app (goodIn_of _ (by decide +kernel)) ggX8_digit_X8_within
theorem dX8_digit_0 : decode cX8_digit 0 = .ok (.aload_n 0, 1) := by decide +kernel
theorem dX8_digit_1 : decode cX8_digit 1 = .ok (.getfield 67, 3) := by decide +kernel
theorem dX8_digit_4 : decode cX8_digit 4 = .ok (.iload_n 1, 1) := by decide +kernel
theorem dX8_digit_5 : decode cX8_digit 5 = .ok (.if_icmp .ge 26, 3) := by decide +kernel
theorem dX8_digit_8 : decode cX8_digit 8 = .ok (.aload_n 0, 1) := by decide +kernel
theorem dX8_digit_9 : decode cX8_digit 9 = .ok (.getfield 16, 3) := by decide +kernel
theorem dX8_digit_12 : decode cX8_digit 12 = .ok (.aload_n 0, 1) := by decide +kernel
theorem dX8_digit_13 : decode cX8_digit 13 = .ok (.getfield 67, 3) := by decide +kernel
theorem dX8_digit_16 : decode cX8_digit 16 = .ok (.iaload, 1) := by decide +kernel
theorem dX8_digit_17 : decode cX8_digit 17 = .ok (.bipush 48, 2) := by decide +kernel
theorem dX8_digit_19 : decode cX8_digit 19 = .ok (.iload_n 2, 1) := by decide +kernel
theorem dX8_digit_20 : decode cX8_digit 20 = .ok (.iadd, 1) := by decide +kernel
theorem dX8_digit_21 : decode cX8_digit 21 = .ok (.bipush 48, 2) := by decide +kernel
theorem dX8_digit_23 : decode cX8_digit 23 = .ok (.iload_n 3, 1) := by decide +kernel
theorem dX8_digit_24 : decode cX8_digit 24 = .ok (.iadd, 1) := by decide +kernel
theorem dX8_digit_25 : decode cX8_digit 25 = .ok (.invokestatic 56, 3) := by decide +kernel
theorem dX8_digit_28 : decode cX8_digit 28 = .ok (.ifCond .ne 6, 3) := by decide +kernel
theorem dX8_digit_31 : decode cX8_digit 31 = .ok (.bipush (-9), 2) := by decide +kernel
theorem dX8_digit_33 : decode cX8_digit 33 = .ok (.ireturn, 1) := by decide +kernel
theorem dX8_digit_34 : decode cX8_digit 34 = .ok (.aload_n 0, 1) := by decide +kernel
theorem dX8_digit_35 : decode cX8_digit 35 = .ok (.dup, 1) := by decide +kernel
theorem dX8_digit_36 : decode cX8_digit 36 = .ok (.getfield 67, 3) := by decide +kernel
theorem dX8_digit_39 : decode cX8_digit 39 = .ok (.iconst 1, 1) := by decide +kernel
theorem dX8_digit_40 : decode cX8_digit 40 = .ok (.iadd, 1) := by decide +kernel
theorem dX8_digit_41 : decode cX8_digit 41 = .ok (.putfield 67, 3) := by decide +kernel
theorem dX8_digit_44 : decode cX8_digit 44 = .ok (.aload_n 0, 1) := by decide +kernel
theorem dX8_digit_45 : decode cX8_digit 45 = .ok (.getfield 16, 3) := by decide +kernel
theorem dX8_digit_48 : decode cX8_digit 48 = .ok (.aload_n 0, 1) := by decide +kernel
theorem dX8_digit_49 : decode cX8_digit 49 = .ok (.getfield 67, 3) := by decide +kernel
theorem dX8_digit_52 : decode cX8_digit 52 = .ok (.iconst 1, 1) := by decide +kernel
theorem dX8_digit_53 : decode cX8_digit 53 = .ok (.isub, 1) := by decide +kernel
theorem dX8_digit_54 : decode cX8_digit 54 = .ok (.iaload, 1) := by decide +kernel
theorem dX8_digit_55 : decode cX8_digit 55 = .ok (.bipush 48, 2) := by decide +kernel
theorem dX8_digit_57 : decode cX8_digit 57 = .ok (.isub, 1) := by decide +kernel
theorem dX8_digit_58 : decode cX8_digit 58 = .ok (.ireturn, 1) := by decide +kernel
theorem dX8_isSign_0 : decode cX8_isSign 0 = .ok (.aload_n 0, 1) := by decide +kernel
theorem dX8_isSign_1 : decode cX8_isSign 1 = .ok (.getfield 67, 3) := by decide +kernel
theorem dX8_isSign_4 : decode cX8_isSign 4 = .ok (.iload_n 1, 1) := by decide +kernel
theorem dX8_isSign_5 : decode cX8_isSign 5 = .ok (.if_icmp .ge 16, 3) := by decide +kernel
theorem dX8_isSign_8 : decode cX8_isSign 8 = .ok (.aload_n 0, 1) := by decide +kernel
theorem dX8_isSign_9 : decode cX8_isSign 9 = .ok (.getfield 16, 3) := by decide +kernel
theorem dX8_isSign_12 : decode cX8_isSign 12 = .ok (.aload_n 0, 1) := by decide +kernel
theorem dX8_isSign_13 : decode cX8_isSign 13 = .ok (.getfield 67, 3) := by decide +kernel
theorem dX8_isSign_16 : decode cX8_isSign 16 = .ok (.iaload, 1) := by decide +kernel
theorem dX8_isSign_17 : decode cX8_isSign 17 = .ok (.iload_n 2, 1) := by decide +kernel
theorem dX8_isSign_18 : decode cX8_isSign 18 = .ok (.if_icmp .eq 5, 3) := by decide +kernel
theorem dX8_isSign_21 : decode cX8_isSign 21 = .ok (.iconst 0, 1) := by decide +kernel
theorem dX8_isSign_22 : decode cX8_isSign 22 = .ok (.ireturn, 1) := by decide +kernel
theorem dX8_isSign_23 : decode cX8_isSign 23 = .ok (.aload_n 0, 1) := by decide +kernel
theorem dX8_isSign_24 : decode cX8_isSign 24 = .ok (.dup, 1) := by decide +kernel
theorem dX8_isSign_25 : decode cX8_isSign 25 = .ok (.getfield 67, 3) := by decide +kernel
theorem dX8_isSign_28 : decode cX8_isSign 28 = .ok (.iconst 1, 1) := by decide +kernel
theorem dX8_isSign_29 : decode cX8_isSign 29 = .ok (.iadd, 1) := by decide +kernel
theorem dX8_isSign_30 : decode cX8_isSign 30 = .ok (.putfield 67, 3) := by decide +kernel
theorem dX8_isSign_33 : decode cX8_isSign 33 = .ok (.iconst 1, 1) := by decide +kernel
theorem dX8_isSign_34 : decode cX8_isSign 34 = .ok (.ireturn, 1) := by decide +kernel
set_option maxRecDepth 20000 in
theorem ggX8_town_X8_isSheet : GoodIn wsX8_town wsX8_isSheet := goodIn_r _ [15, 16, 17, 14, 18] (by decide +kernel) (by decide +kernel)
set_option maxRecDepth 20000 in
theorem gX8_town_X8_isSheet : GoodIn wsX8_town (va_wsS RX8 70 yX8_isSheet wsX8_isSheet) := goodIn_app (goodIn_of _ (by decide +kernel)) ggX8_town_X8_isSheet
set_option maxRecDepth 20000 in
theorem ggX8_town_X8_isSort : GoodIn wsX8_town wsX8_isSort := goodIn_r _ [21, 16, 17, 14, 18] (by decide +kernel) (by decide +kernel)
set_option maxRecDepth 20000 in
theorem gX8_town_X8_isSort : GoodIn wsX8_town (va_wsS RX8 73 yX8_isSort wsX8_isSort) := goodIn_app (goodIn_of _ (by decide +kernel)) ggX8_town_X8_isSort
set_option maxRecDepth 20000 in
theorem ggX8_town_X8_against : GoodIn wsX8_town wsX8_against := goodIn_r _ [25, 26, 27, 52, 53, 54, 55, 56, 57, 58, 59, 60, 61, 62, 63, 64, 65, 66, 67, 68, 69, 70, 71, 72] (by decide +kernel) (by decide +kernel)
set_option maxRecDepth 20000 in
theorem gX8_town_X8_against : GoodIn wsX8_town (wsV RX8 76 RX8 yX8_against wsX8_against) := goodIn_app (goodIn_of _ (by decide +kernel)) ggX8_town_X8_against
set_option maxRecDepth 20000 in
theorem ggX8_town_X8_fails : GoodIn wsX8_town wsX8_fails := goodIn_r _ [31, 1, 52, 53, 54, 55, 56, 57, 58, 59, 60, 61, 62, 63, 64, 65, 66, 67, 68, 69, 70, 71, 72] (by decide +kernel) (by decide +kernel)
set_option maxRecDepth 20000 in
theorem gX8_town_X8_fails : GoodIn wsX8_town (wsV RX8 80 RX8 yX8_fails wsX8_fails) := goodIn_app (goodIn_of _ (by decide +kernel)) ggX8_town_X8_fails
set_option maxRecDepth 20000 in
theorem ggX8_town_X8_readTown : GoodIn wsX8_town wsX8_readTown := goodIn_r _ [35, 3, 5, 2, 36, 37, 38, 14, 39, 40, 41, 42, 43, 44, 16, 17, 18, 45, 46, 47, 48, 8, 10, 49, 50, 51, 52, 53, 54, 55, 56, 57, 58, 59, 60, 61, 62, 63, 64, 65, 66, 67, 68, 69, 70, 71, 72] (by decide +kernel) (by decide +kernel)
set_option maxRecDepth 20000 in
theorem gX8_town_X8_readTown : GoodIn wsX8_town (wsV RX8 84 RX8 yX8_readTown wsX8_readTown) := goodIn_app (goodIn_of _ (by decide +kernel)) ggX8_town_X8_readTown
theorem dX8_town_0 : decode cX8_town 0 = .ok (.aload_n 0, 1) := by decide +kernel
theorem dX8_town_1 : decode cX8_town 1 = .ok (.iconst 0, 1) := by decide +kernel
theorem dX8_town_2 : decode cX8_town 2 = .ok (.putfield 50, 3) := by decide +kernel
theorem dX8_town_5 : decode cX8_town 5 = .ok (.iload_n 1, 1) := by decide +kernel
theorem dX8_town_6 : decode cX8_town 6 = .ok (.invokestatic 70, 3) := by decide +kernel
theorem dX8_town_9 : decode cX8_town 9 = .ok (.ifCond .ne 5, 3) := by decide +kernel
theorem dX8_town_12 : decode cX8_town 12 = .ok (.iconst (-1), 1) := by decide +kernel
theorem dX8_town_13 : decode cX8_town 13 = .ok (.ireturn, 1) := by decide +kernel
theorem dX8_town_14 : decode cX8_town 14 = .ok (.iload_n 2, 1) := by decide +kernel
theorem dX8_town_15 : decode cX8_town 15 = .ok (.invokestatic 73, 3) := by decide +kernel
theorem dX8_town_18 : decode cX8_town 18 = .ok (.ifCond .ne 6, 3) := by decide +kernel
theorem dX8_town_21 : decode cX8_town 21 = .ok (.bipush (-2), 2) := by decide +kernel
theorem dX8_town_23 : decode cX8_town 23 = .ok (.ireturn, 1) := by decide +kernel
theorem dX8_town_24 : decode cX8_town 24 = .ok (.aload_n 0, 1) := by decide +kernel
theorem dX8_town_25 : decode cX8_town 25 = .ok (.iload_n 1, 1) := by decide +kernel
theorem dX8_town_26 : decode cX8_town 26 = .ok (.iload_n 2, 1) := by decide +kernel
theorem dX8_town_27 : decode cX8_town 27 = .ok (.iload_n 3, 1) := by decide +kernel
theorem dX8_town_28 : decode cX8_town 28 = .ok (.iload 4, 2) := by decide +kernel
theorem dX8_town_30 : decode cX8_town 30 = .ok (.invokevirtual 76, 3) := by decide +kernel
theorem dX8_town_33 : decode cX8_town 33 = .ok (.istore 5, 2) := by decide +kernel
theorem dX8_town_35 : decode cX8_town 35 = .ok (.iload 5, 2) := by decide +kernel
theorem dX8_town_37 : decode cX8_town 37 = .ok (.ifCond .eq 10, 3) := by decide +kernel
theorem dX8_town_40 : decode cX8_town 40 = .ok (.aload_n 0, 1) := by decide +kernel
theorem dX8_town_41 : decode cX8_town 41 = .ok (.iload 5, 2) := by decide +kernel
theorem dX8_town_43 : decode cX8_town 43 = .ok (.invokevirtual 80, 3) := by decide +kernel
theorem dX8_town_46 : decode cX8_town 46 = .ok (.ireturn, 1) := by decide +kernel
theorem dX8_town_47 : decode cX8_town 47 = .ok (.bipush 60, 2) := by decide +kernel
theorem dX8_town_49 : decode cX8_town 49 = .ok (.iload_n 1, 1) := by decide +kernel
theorem dX8_town_50 : decode cX8_town 50 = .ok (.imul, 1) := by decide +kernel
theorem dX8_town_51 : decode cX8_town 51 = .ok (.iload_n 3, 1) := by decide +kernel
theorem dX8_town_52 : decode cX8_town 52 = .ok (.iadd, 1) := by decide +kernel
theorem dX8_town_53 : decode cX8_town 53 = .ok (.istore 6, 2) := by decide +kernel
theorem dX8_town_55 : decode cX8_town 55 = .ok (.aload_n 0, 1) := by decide +kernel
theorem dX8_town_56 : decode cX8_town 56 = .ok (.iload 6, 2) := by decide +kernel
theorem dX8_town_58 : decode cX8_town 58 = .ok (.putfield 67, 3) := by decide +kernel
theorem dX8_town_61 : decode cX8_town 61 = .ok (.aload_n 0, 1) := by decide +kernel
theorem dX8_town_62 : decode cX8_town 62 = .ok (.iload 6, 2) := by decide +kernel
theorem dX8_town_64 : decode cX8_town 64 = .ok (.iload 4, 2) := by decide +kernel
theorem dX8_town_66 : decode cX8_town 66 = .ok (.iadd, 1) := by decide +kernel
theorem dX8_town_67 : decode cX8_town 67 = .ok (.invokevirtual 84, 3) := by decide +kernel
theorem dX8_town_70 : decode cX8_town 70 = .ok (.ifCond .ne 14, 3) := by decide +kernel
theorem dX8_town_73 : decode cX8_town 73 = .ok (.bipush (-100), 2) := by decide +kernel
theorem dX8_town_75 : decode cX8_town 75 = .ok (.aload_n 0, 1) := by decide +kernel
theorem dX8_town_76 : decode cX8_town 76 = .ok (.getfield 67, 3) := by decide +kernel
theorem dX8_town_79 : decode cX8_town 79 = .ok (.iload 6, 2) := by decide +kernel
theorem dX8_town_81 : decode cX8_town 81 = .ok (.isub, 1) := by decide +kernel
theorem dX8_town_82 : decode cX8_town 82 = .ok (.isub, 1) := by decide +kernel
theorem dX8_town_83 : decode cX8_town 83 = .ok (.ireturn, 1) := by decide +kernel
theorem dX8_town_84 : decode cX8_town 84 = .ok (.aload_n 0, 1) := by decide +kernel
theorem dX8_town_85 : decode cX8_town 85 = .ok (.aload_n 0, 1) := by decide +kernel
theorem dX8_town_86 : decode cX8_town 86 = .ok (.getfield 87, 3) := by decide +kernel
theorem dX8_town_89 : decode cX8_town 89 = .ok (.putfield 60, 3) := by decide +kernel
theorem dX8_town_92 : decode cX8_town 92 = .ok (.aload_n 0, 1) := by decide +kernel
theorem dX8_town_93 : decode cX8_town 93 = .ok (.aload_n 0, 1) := by decide +kernel
theorem dX8_town_94 : decode cX8_town 94 = .ok (.getfield 90, 3) := by decide +kernel
theorem dX8_town_97 : decode cX8_town 97 = .ok (.putfield 93, 3) := by decide +kernel
theorem dX8_town_100 : decode cX8_town 100 = .ok (.iconst 0, 1) := by decide +kernel
theorem dX8_town_101 : decode cX8_town 101 = .ok (.istore 7, 2) := by decide +kernel
theorem dX8_town_103 : decode cX8_town 103 = .ok (.iload 7, 2) := by decide +kernel
theorem dX8_town_105 : decode cX8_town 105 = .ok (.aload_n 0, 1) := by decide +kernel
theorem dX8_town_106 : decode cX8_town 106 = .ok (.getfield 60, 3) := by decide +kernel
theorem dX8_town_109 : decode cX8_town 109 = .ok (.if_icmp .ge 23, 3) := by decide +kernel
theorem dX8_town_112 : decode cX8_town 112 = .ok (.aload_n 0, 1) := by decide +kernel
theorem dX8_town_113 : decode cX8_town 113 = .ok (.getfield 19, 3) := by decide +kernel
theorem dX8_town_116 : decode cX8_town 116 = .ok (.iload 7, 2) := by decide +kernel
theorem dX8_town_118 : decode cX8_town 118 = .ok (.aload_n 0, 1) := by decide +kernel
theorem dX8_town_119 : decode cX8_town 119 = .ok (.getfield 25, 3) := by decide +kernel
theorem dX8_town_122 : decode cX8_town 122 = .ok (.iload 7, 2) := by decide +kernel
theorem dX8_town_124 : decode cX8_town 124 = .ok (.iaload, 1) := by decide +kernel
theorem dX8_town_125 : decode cX8_town 125 = .ok (.iastore, 1) := by decide +kernel
theorem dX8_town_126 : decode cX8_town 126 = .ok (.iinc 7 1, 3) := by decide +kernel
theorem dX8_town_129 : decode cX8_town 129 = .ok (.goto (-26), 3) := by decide +kernel
theorem dX8_town_132 : decode cX8_town 132 = .ok (.iconst 0, 1) := by decide +kernel
theorem dX8_town_133 : decode cX8_town 133 = .ok (.istore 7, 2) := by decide +kernel
theorem dX8_town_135 : decode cX8_town 135 = .ok (.iload 7, 2) := by decide +kernel
theorem dX8_town_137 : decode cX8_town 137 = .ok (.bipush 36, 2) := by decide +kernel
theorem dX8_town_139 : decode cX8_town 139 = .ok (.if_icmp .ge 23, 3) := by decide +kernel
theorem dX8_town_142 : decode cX8_town 142 = .ok (.aload_n 0, 1) := by decide +kernel
theorem dX8_town_143 : decode cX8_town 143 = .ok (.getfield 22, 3) := by decide +kernel
theorem dX8_town_146 : decode cX8_town 146 = .ok (.iload 7, 2) := by decide +kernel
theorem dX8_town_148 : decode cX8_town 148 = .ok (.aload_n 0, 1) := by decide +kernel
theorem dX8_town_149 : decode cX8_town 149 = .ok (.getfield 28, 3) := by decide +kernel
theorem dX8_town_152 : decode cX8_town 152 = .ok (.iload 7, 2) := by decide +kernel
theorem dX8_town_154 : decode cX8_town 154 = .ok (.iaload, 1) := by decide +kernel
theorem dX8_town_155 : decode cX8_town 155 = .ok (.iastore, 1) := by decide +kernel
theorem dX8_town_156 : decode cX8_town 156 = .ok (.iinc 7 1, 3) := by decide +kernel
theorem dX8_town_159 : decode cX8_town 159 = .ok (.goto (-24), 3) := by decide +kernel
theorem dX8_town_162 : decode cX8_town 162 = .ok (.aload_n 0, 1) := by decide +kernel
theorem dX8_town_163 : decode cX8_town 163 = .ok (.iconst 0, 1) := by decide +kernel
theorem dX8_town_164 : decode cX8_town 164 = .ok (.putfield 96, 3) := by decide +kernel
theorem dX8_town_167 : decode cX8_town 167 = .ok (.aload_n 0, 1) := by decide +kernel
theorem dX8_town_168 : decode cX8_town 168 = .ok (.getfield 60, 3) := by decide +kernel
theorem dX8_town_171 : decode cX8_town 171 = .ok (.ireturn, 1) := by decide +kernel
set_option maxRecDepth 20000 in
theorem ggX8_readTown_X8_isSign : GoodIn wsX8_readTown wsX8_isSign := goodIn_r _ [8, 3, 9, 26, 27, 28, 29, 30, 31, 32, 33, 34, 35, 36, 37, 38, 39, 40, 41, 42, 43, 44, 45, 46] (by decide +kernel) (by decide +kernel)
set_option maxRecDepth 20000 in
theorem gX8_readTown_X8_isSign : GoodIn wsX8_readTown (wsV RX8 99 RX8 yX8_isSign wsX8_isSign) := goodIn_app (goodIn_of _ (by decide +kernel)) ggX8_readTown_X8_isSign
set_option maxRecDepth 20000 in
theorem ggX8_readTown_X8_digit : GoodIn wsX8_readTown wsX8_digit := goodIn_r _ [13, 3, 9, 14, 15, 7, 16, 26, 27, 28, 29, 30, 31, 32, 33, 34, 35, 36, 37, 38, 39, 40, 41, 42, 43, 44, 45, 46] (by decide +kernel) (by decide +kernel)
set_option maxRecDepth 20000 in
theorem gX8_readTown_X8_digit : GoodIn wsX8_readTown (wsV RX8 103 RX8 yX8_digit wsX8_digit) := goodIn_app (goodIn_of _ (by decide +kernel)) ggX8_readTown_X8_digit
set_option maxRecDepth 20000 in
theorem ggX8_readTown_X8_readPerson : GoodIn wsX8_readTown wsX8_readPerson := goodIn_r _ [20, 3, 9, 21, 1, 22, 23, 24, 7, 25, 10, 11, 12, 13, 14, 15, 16, 26, 27, 28, 29, 30, 31, 32, 33, 34, 35, 36, 37, 38, 39, 40, 41, 42, 43, 44, 45, 46] (by decide +kernel) (by decide +kernel)
set_option maxRecDepth 20000 in
theorem gX8_readTown_X8_readPerson : GoodIn wsX8_readTown (wsV RX8 107 RX8 yX8_readPerson wsX8_readPerson) := goodIn_app (goodIn_of _ (by decide +kernel)) ggX8_readTown_X8_readPerson
theorem dX8_readTown_0 : decode cX8_readTown 0 = .ok (.aload_n 0, 1) := by decide +kernel
theorem dX8_readTown_1 : decode cX8_readTown 1 = .ok (.iload_n 1, 1) := by decide +kernel
theorem dX8_readTown_2 : decode cX8_readTown 2 = .ok (.bipush 108, 2) := by decide +kernel
theorem dX8_readTown_4 : decode cX8_readTown 4 = .ok (.invokevirtual 99, 3) := by decide +kernel
theorem dX8_readTown_7 : decode cX8_readTown 7 = .ok (.ifCond .ne 5, 3) := by decide +kernel
theorem dX8_readTown_10 : decode cX8_readTown 10 = .ok (.iconst 0, 1) := by decide +kernel
theorem dX8_readTown_11 : decode cX8_readTown 11 = .ok (.ireturn, 1) := by decide +kernel
theorem dX8_readTown_12 : decode cX8_readTown 12 = .ok (.aload_n 0, 1) := by decide +kernel
theorem dX8_readTown_13 : decode cX8_readTown 13 = .ok (.aload_n 0, 1) := by decide +kernel
theorem dX8_readTown_14 : decode cX8_readTown 14 = .ok (.iload_n 1, 1) := by decide +kernel
theorem dX8_readTown_15 : decode cX8_readTown 15 = .ok (.iconst 2, 1) := by decide +kernel
theorem dX8_readTown_16 : decode cX8_readTown 16 = .ok (.bipush 6, 2) := by decide +kernel
theorem dX8_readTown_18 : decode cX8_readTown 18 = .ok (.invokevirtual 103, 3) := by decide +kernel
theorem dX8_readTown_21 : decode cX8_readTown 21 = .ok (.putfield 87, 3) := by decide +kernel
theorem dX8_readTown_24 : decode cX8_readTown 24 = .ok (.aload_n 0, 1) := by decide +kernel
theorem dX8_readTown_25 : decode cX8_readTown 25 = .ok (.getfield 87, 3) := by decide +kernel
theorem dX8_readTown_28 : decode cX8_readTown 28 = .ok (.bipush (-9), 2) := by decide +kernel
theorem dX8_readTown_30 : decode cX8_readTown 30 = .ok (.if_icmp .ne 5, 3) := by decide +kernel
theorem dX8_readTown_33 : decode cX8_readTown 33 = .ok (.iconst 0, 1) := by decide +kernel
theorem dX8_readTown_34 : decode cX8_readTown 34 = .ok (.ireturn, 1) := by decide +kernel
theorem dX8_readTown_35 : decode cX8_readTown 35 = .ok (.aload_n 0, 1) := by decide +kernel
theorem dX8_readTown_36 : decode cX8_readTown 36 = .ok (.aload_n 0, 1) := by decide +kernel
theorem dX8_readTown_37 : decode cX8_readTown 37 = .ok (.iload_n 1, 1) := by decide +kernel
theorem dX8_readTown_38 : decode cX8_readTown 38 = .ok (.iconst 0, 1) := by decide +kernel
theorem dX8_readTown_39 : decode cX8_readTown 39 = .ok (.bipush 9, 2) := by decide +kernel
theorem dX8_readTown_41 : decode cX8_readTown 41 = .ok (.invokevirtual 103, 3) := by decide +kernel
theorem dX8_readTown_44 : decode cX8_readTown 44 = .ok (.putfield 90, 3) := by decide +kernel
theorem dX8_readTown_47 : decode cX8_readTown 47 = .ok (.aload_n 0, 1) := by decide +kernel
theorem dX8_readTown_48 : decode cX8_readTown 48 = .ok (.getfield 90, 3) := by decide +kernel
theorem dX8_readTown_51 : decode cX8_readTown 51 = .ok (.bipush (-9), 2) := by decide +kernel
theorem dX8_readTown_53 : decode cX8_readTown 53 = .ok (.if_icmp .ne 5, 3) := by decide +kernel
theorem dX8_readTown_56 : decode cX8_readTown 56 = .ok (.iconst 0, 1) := by decide +kernel
theorem dX8_readTown_57 : decode cX8_readTown 57 = .ok (.ireturn, 1) := by decide +kernel
theorem dX8_readTown_58 : decode cX8_readTown 58 = .ok (.iconst 0, 1) := by decide +kernel
theorem dX8_readTown_59 : decode cX8_readTown 59 = .ok (.istore_n 2, 1) := by decide +kernel
theorem dX8_readTown_60 : decode cX8_readTown 60 = .ok (.iload_n 2, 1) := by decide +kernel
theorem dX8_readTown_61 : decode cX8_readTown 61 = .ok (.aload_n 0, 1) := by decide +kernel
theorem dX8_readTown_62 : decode cX8_readTown 62 = .ok (.getfield 87, 3) := by decide +kernel
theorem dX8_readTown_65 : decode cX8_readTown 65 = .ok (.if_icmp .ge 30, 3) := by decide +kernel
theorem dX8_readTown_68 : decode cX8_readTown 68 = .ok (.aload_n 0, 1) := by decide +kernel
theorem dX8_readTown_69 : decode cX8_readTown 69 = .ok (.iload_n 1, 1) := by decide +kernel
theorem dX8_readTown_70 : decode cX8_readTown 70 = .ok (.bipush 44, 2) := by decide +kernel
theorem dX8_readTown_72 : decode cX8_readTown 72 = .ok (.invokevirtual 99, 3) := by decide +kernel
theorem dX8_readTown_75 : decode cX8_readTown 75 = .ok (.ifCond .eq 12, 3) := by decide +kernel
theorem dX8_readTown_78 : decode cX8_readTown 78 = .ok (.aload_n 0, 1) := by decide +kernel
theorem dX8_readTown_79 : decode cX8_readTown 79 = .ok (.iload_n 1, 1) := by decide +kernel
theorem dX8_readTown_80 : decode cX8_readTown 80 = .ok (.iload_n 2, 1) := by decide +kernel
theorem dX8_readTown_81 : decode cX8_readTown 81 = .ok (.invokevirtual 107, 3) := by decide +kernel
theorem dX8_readTown_84 : decode cX8_readTown 84 = .ok (.ifCond .ne 5, 3) := by decide +kernel
theorem dX8_readTown_87 : decode cX8_readTown 87 = .ok (.iconst 0, 1) := by decide +kernel
theorem dX8_readTown_88 : decode cX8_readTown 88 = .ok (.ireturn, 1) := by decide +kernel
theorem dX8_readTown_89 : decode cX8_readTown 89 = .ok (.iinc 2 1, 3) := by decide +kernel
theorem dX8_readTown_92 : decode cX8_readTown 92 = .ok (.goto (-32), 3) := by decide +kernel
theorem dX8_readTown_95 : decode cX8_readTown 95 = .ok (.aload_n 0, 1) := by decide +kernel
theorem dX8_readTown_96 : decode cX8_readTown 96 = .ok (.getfield 67, 3) := by decide +kernel
theorem dX8_readTown_99 : decode cX8_readTown 99 = .ok (.iload_n 1, 1) := by decide +kernel
theorem dX8_readTown_100 : decode cX8_readTown 100 = .ok (.if_icmp .ne 7, 3) := by decide +kernel
theorem dX8_readTown_103 : decode cX8_readTown 103 = .ok (.iconst 1, 1) := by decide +kernel
theorem dX8_readTown_104 : decode cX8_readTown 104 = .ok (.goto 4, 3) := by decide +kernel
theorem dX8_readTown_107 : decode cX8_readTown 107 = .ok (.iconst 0, 1) := by decide +kernel
theorem dX8_readTown_108 : decode cX8_readTown 108 = .ok (.ireturn, 1) := by decide +kernel
set_option maxRecDepth 20000 in
theorem ggX8_readPerson_X8_spot : GoodIn wsX8_readPerson wsX8_spot := goodIn_r _ [9] (by decide +kernel) (by decide +kernel)
set_option maxRecDepth 20000 in
theorem gX8_readPerson_X8_spot : GoodIn wsX8_readPerson (va_wsS RX8 110 yX8_spot wsX8_spot) := goodIn_app (goodIn_of _ (by decide +kernel)) ggX8_readPerson_X8_spot
set_option maxRecDepth 20000 in
theorem ggX8_readPerson_X8_digit : GoodIn wsX8_readPerson wsX8_digit := goodIn_r _ [13, 1, 2, 14, 15, 8, 16, 17, 18, 19, 20, 21, 22, 23, 24, 25, 26, 27, 28, 29, 30, 31, 32, 33, 34, 35, 36, 37] (by decide +kernel) (by decide +kernel)
set_option maxRecDepth 20000 in
theorem gX8_readPerson_X8_digit : GoodIn wsX8_readPerson (wsV RX8 103 RX8 yX8_digit wsX8_digit) := goodIn_app (goodIn_of _ (by decide +kernel)) ggX8_readPerson_X8_digit
theorem dX8_readPerson_0 : decode cX8_readPerson 0 = .ok (.aload_n 0, 1) := by decide +kernel
theorem dX8_readPerson_1 : decode cX8_readPerson 1 = .ok (.getfield 67, 3) := by decide +kernel
theorem dX8_readPerson_4 : decode cX8_readPerson 4 = .ok (.iload_n 1, 1) := by decide +kernel
theorem dX8_readPerson_5 : decode cX8_readPerson 5 = .ok (.if_icmp .ge 15, 3) := by decide +kernel
theorem dX8_readPerson_8 : decode cX8_readPerson 8 = .ok (.aload_n 0, 1) := by decide +kernel
theorem dX8_readPerson_9 : decode cX8_readPerson 9 = .ok (.getfield 16, 3) := by decide +kernel
theorem dX8_readPerson_12 : decode cX8_readPerson 12 = .ok (.aload_n 0, 1) := by decide +kernel
theorem dX8_readPerson_13 : decode cX8_readPerson 13 = .ok (.getfield 67, 3) := by decide +kernel
theorem dX8_readPerson_16 : decode cX8_readPerson 16 = .ok (.iaload, 1) := by decide +kernel
theorem dX8_readPerson_17 : decode cX8_readPerson 17 = .ok (.goto 4, 3) := by decide +kernel
theorem dX8_readPerson_20 : decode cX8_readPerson 20 = .ok (.iconst 0, 1) := by decide +kernel
theorem dX8_readPerson_21 : decode cX8_readPerson 21 = .ok (.istore_n 3, 1) := by decide +kernel
theorem dX8_readPerson_22 : decode cX8_readPerson 22 = .ok (.aload_n 0, 1) := by decide +kernel
theorem dX8_readPerson_23 : decode cX8_readPerson 23 = .ok (.getfield 25, 3) := by decide +kernel
theorem dX8_readPerson_26 : decode cX8_readPerson 26 = .ok (.iload_n 2, 1) := by decide +kernel
theorem dX8_readPerson_27 : decode cX8_readPerson 27 = .ok (.iload_n 3, 1) := by decide +kernel
theorem dX8_readPerson_28 : decode cX8_readPerson 28 = .ok (.bipush 112, 2) := by decide +kernel
theorem dX8_readPerson_30 : decode cX8_readPerson 30 = .ok (.if_icmp .ne 7, 3) := by decide +kernel
theorem dX8_readPerson_33 : decode cX8_readPerson 33 = .ok (.iconst 0, 1) := by decide +kernel
theorem dX8_readPerson_34 : decode cX8_readPerson 34 = .ok (.goto 25, 3) := by decide +kernel
theorem dX8_readPerson_37 : decode cX8_readPerson 37 = .ok (.iload_n 3, 1) := by decide +kernel
theorem dX8_readPerson_38 : decode cX8_readPerson 38 = .ok (.bipush 114, 2) := by decide +kernel
theorem dX8_readPerson_40 : decode cX8_readPerson 40 = .ok (.if_icmp .ne 7, 3) := by decide +kernel
theorem dX8_readPerson_43 : decode cX8_readPerson 43 = .ok (.iconst 1, 1) := by decide +kernel
theorem dX8_readPerson_44 : decode cX8_readPerson 44 = .ok (.goto 15, 3) := by decide +kernel
theorem dX8_readPerson_47 : decode cX8_readPerson 47 = .ok (.iload_n 3, 1) := by decide +kernel
theorem dX8_readPerson_48 : decode cX8_readPerson 48 = .ok (.bipush 98, 2) := by decide +kernel
theorem dX8_readPerson_50 : decode cX8_readPerson 50 = .ok (.if_icmp .ne 7, 3) := by decide +kernel
theorem dX8_readPerson_53 : decode cX8_readPerson 53 = .ok (.iconst 2, 1) := by decide +kernel
theorem dX8_readPerson_54 : decode cX8_readPerson 54 = .ok (.goto 5, 3) := by decide +kernel
theorem dX8_readPerson_57 : decode cX8_readPerson 57 = .ok (.bipush (-9), 2) := by decide +kernel
theorem dX8_readPerson_59 : decode cX8_readPerson 59 = .ok (.iastore, 1) := by decide +kernel
theorem dX8_readPerson_60 : decode cX8_readPerson 60 = .ok (.aload_n 0, 1) := by decide +kernel
theorem dX8_readPerson_61 : decode cX8_readPerson 61 = .ok (.getfield 25, 3) := by decide +kernel
theorem dX8_readPerson_64 : decode cX8_readPerson 64 = .ok (.iload_n 2, 1) := by decide +kernel
theorem dX8_readPerson_65 : decode cX8_readPerson 65 = .ok (.iaload, 1) := by decide +kernel
theorem dX8_readPerson_66 : decode cX8_readPerson 66 = .ok (.bipush (-9), 2) := by decide +kernel
theorem dX8_readPerson_68 : decode cX8_readPerson 68 = .ok (.if_icmp .ne 5, 3) := by decide +kernel
theorem dX8_readPerson_71 : decode cX8_readPerson 71 = .ok (.iconst 0, 1) := by decide +kernel
theorem dX8_readPerson_72 : decode cX8_readPerson 72 = .ok (.ireturn, 1) := by decide +kernel
theorem dX8_readPerson_73 : decode cX8_readPerson 73 = .ok (.aload_n 0, 1) := by decide +kernel
theorem dX8_readPerson_74 : decode cX8_readPerson 74 = .ok (.dup, 1) := by decide +kernel
theorem dX8_readPerson_75 : decode cX8_readPerson 75 = .ok (.getfield 67, 3) := by decide +kernel
theorem dX8_readPerson_78 : decode cX8_readPerson 78 = .ok (.iconst 1, 1) := by decide +kernel
theorem dX8_readPerson_79 : decode cX8_readPerson 79 = .ok (.iadd, 1) := by decide +kernel
theorem dX8_readPerson_80 : decode cX8_readPerson 80 = .ok (.putfield 67, 3) := by decide +kernel
theorem dX8_readPerson_83 : decode cX8_readPerson 83 = .ok (.iconst 0, 1) := by decide +kernel
theorem dX8_readPerson_84 : decode cX8_readPerson 84 = .ok (.istore 4, 2) := by decide +kernel
theorem dX8_readPerson_86 : decode cX8_readPerson 86 = .ok (.iload 4, 2) := by decide +kernel
theorem dX8_readPerson_88 : decode cX8_readPerson 88 = .ok (.aload_n 0, 1) := by decide +kernel
theorem dX8_readPerson_89 : decode cX8_readPerson 89 = .ok (.getfield 87, 3) := by decide +kernel
theorem dX8_readPerson_92 : decode cX8_readPerson 92 = .ok (.if_icmp .ge 56, 3) := by decide +kernel
theorem dX8_readPerson_95 : decode cX8_readPerson 95 = .ok (.aload_n 0, 1) := by decide +kernel
theorem dX8_readPerson_96 : decode cX8_readPerson 96 = .ok (.getfield 28, 3) := by decide +kernel
theorem dX8_readPerson_99 : decode cX8_readPerson 99 = .ok (.iload_n 2, 1) := by decide +kernel
theorem dX8_readPerson_100 : decode cX8_readPerson 100 = .ok (.iload 4, 2) := by decide +kernel
theorem dX8_readPerson_102 : decode cX8_readPerson 102 = .ok (.invokestatic 110, 3) := by decide +kernel
theorem dX8_readPerson_105 : decode cX8_readPerson 105 = .ok (.aload_n 0, 1) := by decide +kernel
theorem dX8_readPerson_106 : decode cX8_readPerson 106 = .ok (.iload_n 1, 1) := by decide +kernel
theorem dX8_readPerson_107 : decode cX8_readPerson 107 = .ok (.iconst 0, 1) := by decide +kernel
theorem dX8_readPerson_108 : decode cX8_readPerson 108 = .ok (.iload 4, 2) := by decide +kernel
theorem dX8_readPerson_110 : decode cX8_readPerson 110 = .ok (.iload_n 2, 1) := by decide +kernel
theorem dX8_readPerson_111 : decode cX8_readPerson 111 = .ok (.if_icmp .ne 7, 3) := by decide +kernel
theorem dX8_readPerson_114 : decode cX8_readPerson 114 = .ok (.iconst 0, 1) := by decide +kernel
theorem dX8_readPerson_115 : decode cX8_readPerson 115 = .ok (.goto 5, 3) := by decide +kernel
theorem dX8_readPerson_118 : decode cX8_readPerson 118 = .ok (.bipush 9, 2) := by decide +kernel
theorem dX8_readPerson_120 : decode cX8_readPerson 120 = .ok (.invokevirtual 103, 3) := by decide +kernel
theorem dX8_readPerson_123 : decode cX8_readPerson 123 = .ok (.iastore, 1) := by decide +kernel
theorem dX8_readPerson_124 : decode cX8_readPerson 124 = .ok (.aload_n 0, 1) := by decide +kernel
theorem dX8_readPerson_125 : decode cX8_readPerson 125 = .ok (.getfield 28, 3) := by decide +kernel
theorem dX8_readPerson_128 : decode cX8_readPerson 128 = .ok (.iload_n 2, 1) := by decide +kernel
theorem dX8_readPerson_129 : decode cX8_readPerson 129 = .ok (.iload 4, 2) := by decide +kernel
theorem dX8_readPerson_131 : decode cX8_readPerson 131 = .ok (.invokestatic 110, 3) := by decide +kernel
theorem dX8_readPerson_134 : decode cX8_readPerson 134 = .ok (.iaload, 1) := by decide +kernel
theorem dX8_readPerson_135 : decode cX8_readPerson 135 = .ok (.bipush (-9), 2) := by decide +kernel
theorem dX8_readPerson_137 : decode cX8_readPerson 137 = .ok (.if_icmp .ne 5, 3) := by decide +kernel
theorem dX8_readPerson_140 : decode cX8_readPerson 140 = .ok (.iconst 0, 1) := by decide +kernel
theorem dX8_readPerson_141 : decode cX8_readPerson 141 = .ok (.ireturn, 1) := by decide +kernel
theorem dX8_readPerson_142 : decode cX8_readPerson 142 = .ok (.iinc 4 1, 3) := by decide +kernel
theorem dX8_readPerson_145 : decode cX8_readPerson 145 = .ok (.goto (-59), 3) := by decide +kernel
theorem dX8_readPerson_148 : decode cX8_readPerson 148 = .ok (.iconst 1, 1) := by decide +kernel
theorem dX8_readPerson_149 : decode cX8_readPerson 149 = .ok (.ireturn, 1) := by decide +kernel
set_option maxRecDepth 20000 in
theorem ggX8_weightOf_X8_spot : GoodIn wsX8_weightOf wsX8_spot := goodIn_r _ [6] (by decide +kernel) (by decide +kernel)
set_option maxRecDepth 20000 in
theorem gX8_weightOf_X8_spot : GoodIn wsX8_weightOf (va_wsS RX8 110 yX8_spot wsX8_spot) := goodIn_app (goodIn_of _ (by decide +kernel)) ggX8_weightOf_X8_spot
theorem dX8_weightOf_0 : decode cX8_weightOf 0 = .ok (.aload_n 0, 1) := by decide +kernel
theorem dX8_weightOf_1 : decode cX8_weightOf 1 = .ok (.getfield 22, 3) := by decide +kernel
theorem dX8_weightOf_4 : decode cX8_weightOf 4 = .ok (.iload_n 1, 1) := by decide +kernel
theorem dX8_weightOf_5 : decode cX8_weightOf 5 = .ok (.iload_n 2, 1) := by decide +kernel
theorem dX8_weightOf_6 : decode cX8_weightOf 6 = .ok (.invokestatic 110, 3) := by decide +kernel
theorem dX8_weightOf_9 : decode cX8_weightOf 9 = .ok (.iaload, 1) := by decide +kernel
theorem dX8_weightOf_10 : decode cX8_weightOf 10 = .ok (.istore_n 3, 1) := by decide +kernel
theorem dX8_weightOf_11 : decode cX8_weightOf 11 = .ok (.aload_n 0, 1) := by decide +kernel
theorem dX8_weightOf_12 : decode cX8_weightOf 12 = .ok (.getfield 19, 3) := by decide +kernel
theorem dX8_weightOf_15 : decode cX8_weightOf 15 = .ok (.iload_n 1, 1) := by decide +kernel
theorem dX8_weightOf_16 : decode cX8_weightOf 16 = .ok (.iaload, 1) := by decide +kernel
theorem dX8_weightOf_17 : decode cX8_weightOf 17 = .ok (.ifCond .eq 7, 3) := by decide +kernel
theorem dX8_weightOf_20 : decode cX8_weightOf 20 = .ok (.iload_n 3, 1) := by decide +kernel
theorem dX8_weightOf_21 : decode cX8_weightOf 21 = .ok (.ifCond .ne 7, 3) := by decide +kernel
theorem dX8_weightOf_24 : decode cX8_weightOf 24 = .ok (.iload_n 3, 1) := by decide +kernel
theorem dX8_weightOf_25 : decode cX8_weightOf 25 = .ok (.goto 22, 3) := by decide +kernel
theorem dX8_weightOf_28 : decode cX8_weightOf 28 = .ok (.aload_n 0, 1) := by decide +kernel
theorem dX8_weightOf_29 : decode cX8_weightOf 29 = .ok (.getfield 19, 3) := by decide +kernel
theorem dX8_weightOf_32 : decode cX8_weightOf 32 = .ok (.iload_n 1, 1) := by decide +kernel
theorem dX8_weightOf_33 : decode cX8_weightOf 33 = .ok (.iaload, 1) := by decide +kernel
theorem dX8_weightOf_34 : decode cX8_weightOf 34 = .ok (.iconst 1, 1) := by decide +kernel
theorem dX8_weightOf_35 : decode cX8_weightOf 35 = .ok (.if_icmp .ne 9, 3) := by decide +kernel
theorem dX8_weightOf_38 : decode cX8_weightOf 38 = .ok (.iload_n 3, 1) := by decide +kernel
theorem dX8_weightOf_39 : decode cX8_weightOf 39 = .ok (.iconst 1, 1) := by decide +kernel
theorem dX8_weightOf_40 : decode cX8_weightOf 40 = .ok (.iadd, 1) := by decide +kernel
theorem dX8_weightOf_41 : decode cX8_weightOf 41 = .ok (.goto 6, 3) := by decide +kernel
theorem dX8_weightOf_44 : decode cX8_weightOf 44 = .ok (.iconst 2, 1) := by decide +kernel
theorem dX8_weightOf_45 : decode cX8_weightOf 45 = .ok (.iload_n 3, 1) := by decide +kernel
theorem dX8_weightOf_46 : decode cX8_weightOf 46 = .ok (.imul, 1) := by decide +kernel
theorem dX8_weightOf_47 : decode cX8_weightOf 47 = .ok (.ireturn, 1) := by decide +kernel
set_option maxRecDepth 20000 in
theorem ggX8_lighterOf_X8_weightOf : GoodIn wsX8_lighterOf wsX8_weightOf := goodIn_r _ [6, 7, 8, 9, 10, 5, 11, 12, 13, 14, 15, 16, 17, 18, 19, 20, 21, 22, 23, 24, 25, 26, 27, 28, 29, 30, 31, 32] (by decide +kernel) (by decide +kernel)
set_option maxRecDepth 20000 in
theorem gX8_lighterOf_X8_weightOf : GoodIn wsX8_lighterOf (wsV RX8 114 RX8 yX8_weightOf wsX8_weightOf) := goodIn_app (goodIn_of _ (by decide +kernel)) ggX8_lighterOf_X8_weightOf
theorem dX8_lighterOf_0 : decode cX8_lighterOf 0 = .ok (.bipush (-9), 2) := by decide +kernel
theorem dX8_lighterOf_2 : decode cX8_lighterOf 2 = .ok (.istore_n 2, 1) := by decide +kernel
theorem dX8_lighterOf_3 : decode cX8_lighterOf 3 = .ok (.iconst 0, 1) := by decide +kernel
theorem dX8_lighterOf_4 : decode cX8_lighterOf 4 = .ok (.istore_n 3, 1) := by decide +kernel
theorem dX8_lighterOf_5 : decode cX8_lighterOf 5 = .ok (.iload_n 3, 1) := by decide +kernel
theorem dX8_lighterOf_6 : decode cX8_lighterOf 6 = .ok (.aload_n 0, 1) := by decide +kernel
theorem dX8_lighterOf_7 : decode cX8_lighterOf 7 = .ok (.getfield 60, 3) := by decide +kernel
theorem dX8_lighterOf_10 : decode cX8_lighterOf 10 = .ok (.if_icmp .ge 46, 3) := by decide +kernel
theorem dX8_lighterOf_13 : decode cX8_lighterOf 13 = .ok (.iload_n 3, 1) := by decide +kernel
theorem dX8_lighterOf_14 : decode cX8_lighterOf 14 = .ok (.iload_n 1, 1) := by decide +kernel
theorem dX8_lighterOf_15 : decode cX8_lighterOf 15 = .ok (.if_icmp .eq 35, 3) := by decide +kernel
theorem dX8_lighterOf_18 : decode cX8_lighterOf 18 = .ok (.aload_n 0, 1) := by decide +kernel
theorem dX8_lighterOf_19 : decode cX8_lighterOf 19 = .ok (.iload_n 3, 1) := by decide +kernel
theorem dX8_lighterOf_20 : decode cX8_lighterOf 20 = .ok (.iload_n 1, 1) := by decide +kernel
theorem dX8_lighterOf_21 : decode cX8_lighterOf 21 = .ok (.invokevirtual 114, 3) := by decide +kernel
theorem dX8_lighterOf_24 : decode cX8_lighterOf 24 = .ok (.ifCond .le 26, 3) := by decide +kernel
theorem dX8_lighterOf_27 : decode cX8_lighterOf 27 = .ok (.iload_n 2, 1) := by decide +kernel
theorem dX8_lighterOf_28 : decode cX8_lighterOf 28 = .ok (.bipush (-9), 2) := by decide +kernel
theorem dX8_lighterOf_30 : decode cX8_lighterOf 30 = .ok (.if_icmp .eq 18, 3) := by decide +kernel
theorem dX8_lighterOf_33 : decode cX8_lighterOf 33 = .ok (.aload_n 0, 1) := by decide +kernel
theorem dX8_lighterOf_34 : decode cX8_lighterOf 34 = .ok (.iload_n 3, 1) := by decide +kernel
theorem dX8_lighterOf_35 : decode cX8_lighterOf 35 = .ok (.iload_n 1, 1) := by decide +kernel
theorem dX8_lighterOf_36 : decode cX8_lighterOf 36 = .ok (.invokevirtual 114, 3) := by decide +kernel
theorem dX8_lighterOf_39 : decode cX8_lighterOf 39 = .ok (.aload_n 0, 1) := by decide +kernel
theorem dX8_lighterOf_40 : decode cX8_lighterOf 40 = .ok (.iload_n 2, 1) := by decide +kernel
theorem dX8_lighterOf_41 : decode cX8_lighterOf 41 = .ok (.iload_n 1, 1) := by decide +kernel
theorem dX8_lighterOf_42 : decode cX8_lighterOf 42 = .ok (.invokevirtual 114, 3) := by decide +kernel
theorem dX8_lighterOf_45 : decode cX8_lighterOf 45 = .ok (.if_icmp .le 5, 3) := by decide +kernel
theorem dX8_lighterOf_48 : decode cX8_lighterOf 48 = .ok (.iload_n 3, 1) := by decide +kernel
theorem dX8_lighterOf_49 : decode cX8_lighterOf 49 = .ok (.istore_n 2, 1) := by decide +kernel
theorem dX8_lighterOf_50 : decode cX8_lighterOf 50 = .ok (.iinc 3 1, 3) := by decide +kernel
theorem dX8_lighterOf_53 : decode cX8_lighterOf 53 = .ok (.goto (-48), 3) := by decide +kernel
theorem dX8_lighterOf_56 : decode cX8_lighterOf 56 = .ok (.iload_n 2, 1) := by decide +kernel
theorem dX8_lighterOf_57 : decode cX8_lighterOf 57 = .ok (.ireturn, 1) := by decide +kernel
set_option maxRecDepth 20000 in
theorem ggX8_roundOf_X8_lighterOf : GoodIn wsX8_roundOf wsX8_lighterOf := goodIn_r _ [6, 1, 7, 8, 9, 5, 10, 11, 12, 13, 14, 15, 16, 17, 18, 19, 20, 21, 22, 23, 24, 25, 26, 27, 28, 29, 30, 31, 32, 33, 34, 35, 36] (by decide +kernel) (by decide +kernel)
set_option maxRecDepth 20000 in
theorem gX8_roundOf_X8_lighterOf : GoodIn wsX8_roundOf (wsV RX8 117 RX8 yX8_lighterOf wsX8_lighterOf) := goodIn_app (goodIn_of _ (by decide +kernel)) ggX8_roundOf_X8_lighterOf
theorem dX8_roundOf_0 : decode cX8_roundOf 0 = .ok (.iconst 0, 1) := by decide +kernel
theorem dX8_roundOf_1 : decode cX8_roundOf 1 = .ok (.istore_n 2, 1) := by decide +kernel
theorem dX8_roundOf_2 : decode cX8_roundOf 2 = .ok (.iconst 0, 1) := by decide +kernel
theorem dX8_roundOf_3 : decode cX8_roundOf 3 = .ok (.istore_n 3, 1) := by decide +kernel
theorem dX8_roundOf_4 : decode cX8_roundOf 4 = .ok (.iload_n 3, 1) := by decide +kernel
theorem dX8_roundOf_5 : decode cX8_roundOf 5 = .ok (.aload_n 0, 1) := by decide +kernel
theorem dX8_roundOf_6 : decode cX8_roundOf 6 = .ok (.getfield 60, 3) := by decide +kernel
theorem dX8_roundOf_9 : decode cX8_roundOf 9 = .ok (.if_icmp .ge 28, 3) := by decide +kernel
theorem dX8_roundOf_12 : decode cX8_roundOf 12 = .ok (.iload_n 2, 1) := by decide +kernel
theorem dX8_roundOf_13 : decode cX8_roundOf 13 = .ok (.aload_n 0, 1) := by decide +kernel
theorem dX8_roundOf_14 : decode cX8_roundOf 14 = .ok (.iload_n 3, 1) := by decide +kernel
theorem dX8_roundOf_15 : decode cX8_roundOf 15 = .ok (.invokevirtual 117, 3) := by decide +kernel
theorem dX8_roundOf_18 : decode cX8_roundOf 18 = .ok (.iload_n 1, 1) := by decide +kernel
theorem dX8_roundOf_19 : decode cX8_roundOf 19 = .ok (.if_icmp .ne 9, 3) := by decide +kernel
theorem dX8_roundOf_22 : decode cX8_roundOf 22 = .ok (.iconst 1, 1) := by decide +kernel
theorem dX8_roundOf_23 : decode cX8_roundOf 23 = .ok (.iload_n 3, 1) := by decide +kernel
theorem dX8_roundOf_24 : decode cX8_roundOf 24 = .ok (.ishl, 1) := by decide +kernel
theorem dX8_roundOf_25 : decode cX8_roundOf 25 = .ok (.goto 4, 3) := by decide +kernel
theorem dX8_roundOf_28 : decode cX8_roundOf 28 = .ok (.iconst 0, 1) := by decide +kernel
theorem dX8_roundOf_29 : decode cX8_roundOf 29 = .ok (.ior, 1) := by decide +kernel
theorem dX8_roundOf_30 : decode cX8_roundOf 30 = .ok (.istore_n 2, 1) := by decide +kernel
theorem dX8_roundOf_31 : decode cX8_roundOf 31 = .ok (.iinc 3 1, 3) := by decide +kernel
theorem dX8_roundOf_34 : decode cX8_roundOf 34 = .ok (.goto (-30), 3) := by decide +kernel
theorem dX8_roundOf_37 : decode cX8_roundOf 37 = .ok (.iload_n 2, 1) := by decide +kernel
theorem dX8_roundOf_38 : decode cX8_roundOf 38 = .ok (.ireturn, 1) := by decide +kernel
theorem dX8_steps_0 : decode cX8_steps 0 = .ok (.iconst 0, 1) := by decide +kernel
theorem dX8_steps_1 : decode cX8_steps 1 = .ok (.istore_n 3, 1) := by decide +kernel
theorem dX8_steps_2 : decode cX8_steps 2 = .ok (.iconst 0, 1) := by decide +kernel
theorem dX8_steps_3 : decode cX8_steps 3 = .ok (.istore 4, 2) := by decide +kernel
theorem dX8_steps_5 : decode cX8_steps 5 = .ok (.iconst 0, 1) := by decide +kernel
theorem dX8_steps_6 : decode cX8_steps 6 = .ok (.istore 5, 2) := by decide +kernel
theorem dX8_steps_8 : decode cX8_steps 8 = .ok (.iload 5, 2) := by decide +kernel
theorem dX8_steps_10 : decode cX8_steps 10 = .ok (.aload_n 0, 1) := by decide +kernel
theorem dX8_steps_11 : decode cX8_steps 11 = .ok (.getfield 60, 3) := by decide +kernel
theorem dX8_steps_14 : decode cX8_steps 14 = .ok (.if_icmp .ge 56, 3) := by decide +kernel
theorem dX8_steps_17 : decode cX8_steps 17 = .ok (.iload_n 2, 1) := by decide +kernel
theorem dX8_steps_18 : decode cX8_steps 18 = .ok (.iload 5, 2) := by decide +kernel
theorem dX8_steps_20 : decode cX8_steps 20 = .ok (.ishr, 1) := by decide +kernel
theorem dX8_steps_21 : decode cX8_steps 21 = .ok (.iconst 1, 1) := by decide +kernel
theorem dX8_steps_22 : decode cX8_steps 22 = .ok (.iand, 1) := by decide +kernel
theorem dX8_steps_23 : decode cX8_steps 23 = .ok (.iconst 1, 1) := by decide +kernel
theorem dX8_steps_24 : decode cX8_steps 24 = .ok (.if_icmp .ne 40, 3) := by decide +kernel
theorem dX8_steps_27 : decode cX8_steps 27 = .ok (.iload_n 1, 1) := by decide +kernel
theorem dX8_steps_28 : decode cX8_steps 28 = .ok (.iload 5, 2) := by decide +kernel
theorem dX8_steps_30 : decode cX8_steps 30 = .ok (.isub, 1) := by decide +kernel
theorem dX8_steps_31 : decode cX8_steps 31 = .ok (.iload_n 3, 1) := by decide +kernel
theorem dX8_steps_32 : decode cX8_steps 32 = .ok (.if_icmp .le 10, 3) := by decide +kernel
theorem dX8_steps_35 : decode cX8_steps 35 = .ok (.iload_n 1, 1) := by decide +kernel
theorem dX8_steps_36 : decode cX8_steps 36 = .ok (.iload 5, 2) := by decide +kernel
theorem dX8_steps_38 : decode cX8_steps 38 = .ok (.isub, 1) := by decide +kernel
theorem dX8_steps_39 : decode cX8_steps 39 = .ok (.goto 4, 3) := by decide +kernel
theorem dX8_steps_42 : decode cX8_steps 42 = .ok (.iload_n 3, 1) := by decide +kernel
theorem dX8_steps_43 : decode cX8_steps 43 = .ok (.istore_n 3, 1) := by decide +kernel
theorem dX8_steps_44 : decode cX8_steps 44 = .ok (.iload 5, 2) := by decide +kernel
theorem dX8_steps_46 : decode cX8_steps 46 = .ok (.iload_n 1, 1) := by decide +kernel
theorem dX8_steps_47 : decode cX8_steps 47 = .ok (.isub, 1) := by decide +kernel
theorem dX8_steps_48 : decode cX8_steps 48 = .ok (.iload 4, 2) := by decide +kernel
theorem dX8_steps_50 : decode cX8_steps 50 = .ok (.if_icmp .le 10, 3) := by decide +kernel
theorem dX8_steps_53 : decode cX8_steps 53 = .ok (.iload 5, 2) := by decide +kernel
theorem dX8_steps_55 : decode cX8_steps 55 = .ok (.iload_n 1, 1) := by decide +kernel
theorem dX8_steps_56 : decode cX8_steps 56 = .ok (.isub, 1) := by decide +kernel
theorem dX8_steps_57 : decode cX8_steps 57 = .ok (.goto 5, 3) := by decide +kernel
theorem dX8_steps_60 : decode cX8_steps 60 = .ok (.iload 4, 2) := by decide +kernel
theorem dX8_steps_62 : decode cX8_steps 62 = .ok (.istore 4, 2) := by decide +kernel
theorem dX8_steps_64 : decode cX8_steps 64 = .ok (.iinc 5 1, 3) := by decide +kernel
theorem dX8_steps_67 : decode cX8_steps 67 = .ok (.goto (-59), 3) := by decide +kernel
theorem dX8_steps_70 : decode cX8_steps 70 = .ok (.iload_n 3, 1) := by decide +kernel
theorem dX8_steps_71 : decode cX8_steps 71 = .ok (.iload 4, 2) := by decide +kernel
theorem dX8_steps_73 : decode cX8_steps 73 = .ok (.iadd, 1) := by decide +kernel
theorem dX8_steps_74 : decode cX8_steps 74 = .ok (.iload_n 3, 1) := by decide +kernel
theorem dX8_steps_75 : decode cX8_steps 75 = .ok (.iload 4, 2) := by decide +kernel
theorem dX8_steps_77 : decode cX8_steps 77 = .ok (.if_icmp .ge 7, 3) := by decide +kernel
theorem dX8_steps_80 : decode cX8_steps 80 = .ok (.iload_n 3, 1) := by decide +kernel
theorem dX8_steps_81 : decode cX8_steps 81 = .ok (.goto 5, 3) := by decide +kernel
theorem dX8_steps_84 : decode cX8_steps 84 = .ok (.iload 4, 2) := by decide +kernel
theorem dX8_steps_86 : decode cX8_steps 86 = .ok (.iadd, 1) := by decide +kernel
theorem dX8_steps_87 : decode cX8_steps 87 = .ok (.ireturn, 1) := by decide +kernel
set_option maxRecDepth 20000 in
theorem ggX8_isInTime_X8_roundOf : GoodIn wsX8_isInTime wsX8_roundOf := goodIn_r _ [6, 7, 8, 9, 10, 5, 11, 12, 13, 14, 15, 16, 17, 18, 19, 20, 25, 26, 27, 28, 29, 30, 31, 32, 33, 34, 35, 36, 37, 38, 39, 40, 41, 42, 43, 44, 45] (by decide +kernel) (by decide +kernel)
set_option maxRecDepth 20000 in
theorem gX8_isInTime_X8_roundOf : GoodIn wsX8_isInTime (wsV RX8 120 RX8 yX8_roundOf wsX8_roundOf) := goodIn_app (goodIn_of _ (by decide +kernel)) ggX8_isInTime_X8_roundOf
set_option maxRecDepth 20000 in
theorem ggX8_isInTime_X8_steps : GoodIn wsX8_isInTime wsX8_steps := goodIn_r _ [24, 7, 25, 26, 27, 28, 29, 30, 31, 32, 33, 34, 35, 36, 37, 38, 39, 40, 41, 42, 43, 44, 45] (by decide +kernel) (by decide +kernel)
set_option maxRecDepth 20000 in
theorem gX8_isInTime_X8_steps : GoodIn wsX8_isInTime (wsV RX8 123 RX8 yX8_steps wsX8_steps) := goodIn_app (goodIn_of _ (by decide +kernel)) ggX8_isInTime_X8_steps
theorem dX8_isInTime_0 : decode cX8_isInTime 0 = .ok (.aload_n 0, 1) := by decide +kernel
theorem dX8_isInTime_1 : decode cX8_isInTime 1 = .ok (.iload_n 1, 1) := by decide +kernel
theorem dX8_isInTime_2 : decode cX8_isInTime 2 = .ok (.aload_n 0, 1) := by decide +kernel
theorem dX8_isInTime_3 : decode cX8_isInTime 3 = .ok (.iload_n 1, 1) := by decide +kernel
theorem dX8_isInTime_4 : decode cX8_isInTime 4 = .ok (.invokevirtual 120, 3) := by decide +kernel
theorem dX8_isInTime_7 : decode cX8_isInTime 7 = .ok (.invokevirtual 123, 3) := by decide +kernel
theorem dX8_isInTime_10 : decode cX8_isInTime 10 = .ok (.aload_n 0, 1) := by decide +kernel
theorem dX8_isInTime_11 : decode cX8_isInTime 11 = .ok (.getfield 93, 3) := by decide +kernel
theorem dX8_isInTime_14 : decode cX8_isInTime 14 = .ok (.if_icmp .gt 7, 3) := by decide +kernel
theorem dX8_isInTime_17 : decode cX8_isInTime 17 = .ok (.iconst 1, 1) := by decide +kernel
theorem dX8_isInTime_18 : decode cX8_isInTime 18 = .ok (.goto 4, 3) := by decide +kernel
theorem dX8_isInTime_21 : decode cX8_isInTime 21 = .ok (.iconst 0, 1) := by decide +kernel
theorem dX8_isInTime_22 : decode cX8_isInTime 22 = .ok (.ireturn, 1) := by decide +kernel
set_option maxRecDepth 20000 in
theorem ggX8_owesAll_X8_spot : GoodIn wsX8_owesAll wsX8_spot := goodIn_r _ [6] (by decide +kernel) (by decide +kernel)
set_option maxRecDepth 20000 in
theorem gX8_owesAll_X8_spot : GoodIn wsX8_owesAll (va_wsS RX8 110 yX8_spot wsX8_spot) := goodIn_app (goodIn_of _ (by decide +kernel)) ggX8_owesAll_X8_spot
theorem dX8_owesAll_0 : decode cX8_owesAll 0 = .ok (.iconst 0, 1) := by decide +kernel
theorem dX8_owesAll_1 : decode cX8_owesAll 1 = .ok (.istore_n 2, 1) := by decide +kernel
theorem dX8_owesAll_2 : decode cX8_owesAll 2 = .ok (.iconst 0, 1) := by decide +kernel
theorem dX8_owesAll_3 : decode cX8_owesAll 3 = .ok (.istore_n 3, 1) := by decide +kernel
theorem dX8_owesAll_4 : decode cX8_owesAll 4 = .ok (.iload_n 3, 1) := by decide +kernel
theorem dX8_owesAll_5 : decode cX8_owesAll 5 = .ok (.aload_n 0, 1) := by decide +kernel
theorem dX8_owesAll_6 : decode cX8_owesAll 6 = .ok (.getfield 60, 3) := by decide +kernel
theorem dX8_owesAll_9 : decode cX8_owesAll 9 = .ok (.if_icmp .ge 22, 3) := by decide +kernel
theorem dX8_owesAll_12 : decode cX8_owesAll 12 = .ok (.iload_n 2, 1) := by decide +kernel
theorem dX8_owesAll_13 : decode cX8_owesAll 13 = .ok (.aload_n 0, 1) := by decide +kernel
theorem dX8_owesAll_14 : decode cX8_owesAll 14 = .ok (.getfield 22, 3) := by decide +kernel
theorem dX8_owesAll_17 : decode cX8_owesAll 17 = .ok (.iload_n 1, 1) := by decide +kernel
theorem dX8_owesAll_18 : decode cX8_owesAll 18 = .ok (.iload_n 3, 1) := by decide +kernel
theorem dX8_owesAll_19 : decode cX8_owesAll 19 = .ok (.invokestatic 110, 3) := by decide +kernel
theorem dX8_owesAll_22 : decode cX8_owesAll 22 = .ok (.iaload, 1) := by decide +kernel
theorem dX8_owesAll_23 : decode cX8_owesAll 23 = .ok (.iadd, 1) := by decide +kernel
theorem dX8_owesAll_24 : decode cX8_owesAll 24 = .ok (.istore_n 2, 1) := by decide +kernel
theorem dX8_owesAll_25 : decode cX8_owesAll 25 = .ok (.iinc 3 1, 3) := by decide +kernel
theorem dX8_owesAll_28 : decode cX8_owesAll 28 = .ok (.goto (-24), 3) := by decide +kernel
theorem dX8_owesAll_31 : decode cX8_owesAll 31 = .ok (.iload_n 2, 1) := by decide +kernel
theorem dX8_owesAll_32 : decode cX8_owesAll 32 = .ok (.ireturn, 1) := by decide +kernel
set_option maxRecDepth 20000 in
theorem ggX8_ofPerson_X8_isPerson : GoodIn wsX8_ofPerson wsX8_isPerson := goodIn_r _ [6, 7, 37, 38, 39, 40, 41, 42, 43, 44, 45, 46, 47, 48, 49, 50, 51, 52, 53, 54, 55, 56, 57] (by decide +kernel) (by decide +kernel)
set_option maxRecDepth 20000 in
theorem gX8_ofPerson_X8_isPerson : GoodIn wsX8_ofPerson (wsV RX8 63 RX8 yX8_isPerson wsX8_isPerson) := goodIn_app (goodIn_of _ (by decide +kernel)) ggX8_ofPerson_X8_isPerson
set_option maxRecDepth 20000 in
theorem ggX8_ofPerson_X8_owesAll : GoodIn wsX8_ofPerson wsX8_owesAll := goodIn_r _ [11, 7, 12, 13, 14, 5, 15, 37, 38, 39, 40, 41, 42, 43, 44, 45, 46, 47, 48, 49, 50, 51, 52, 53, 54, 55, 56, 57] (by decide +kernel) (by decide +kernel)
set_option maxRecDepth 20000 in
theorem gX8_ofPerson_X8_owesAll : GoodIn wsX8_ofPerson (wsV RX8 126 RX8 yX8_owesAll wsX8_owesAll) := goodIn_app (goodIn_of _ (by decide +kernel)) ggX8_ofPerson_X8_owesAll
set_option maxRecDepth 20000 in
theorem ggX8_ofPerson_X8_roundOf : GoodIn wsX8_ofPerson wsX8_roundOf := goodIn_r _ [19, 7, 20, 21, 22, 5, 23, 24, 25, 26, 27, 12, 1, 13, 14, 15, 37, 38, 39, 40, 41, 42, 43, 44, 45, 46, 47, 48, 49, 50, 51, 52, 53, 54, 55, 56, 57] (by decide +kernel) (by decide +kernel)
set_option maxRecDepth 20000 in
theorem gX8_ofPerson_X8_roundOf : GoodIn wsX8_ofPerson (wsV RX8 120 RX8 yX8_roundOf wsX8_roundOf) := goodIn_app (goodIn_of _ (by decide +kernel)) ggX8_ofPerson_X8_roundOf
set_option maxRecDepth 20000 in
theorem ggX8_ofPerson_X8_steps : GoodIn wsX8_ofPerson wsX8_steps := goodIn_r _ [31, 7, 37, 38, 39, 40, 41, 42, 43, 44, 45, 46, 47, 48, 49, 50, 51, 52, 53, 54, 55, 56, 57] (by decide +kernel) (by decide +kernel)
set_option maxRecDepth 20000 in
theorem gX8_ofPerson_X8_steps : GoodIn wsX8_ofPerson (wsV RX8 123 RX8 yX8_steps wsX8_steps) := goodIn_app (goodIn_of _ (by decide +kernel)) ggX8_ofPerson_X8_steps
set_option maxRecDepth 20000 in
theorem ggX8_ofPerson_X8_isInTime : GoodIn wsX8_ofPerson wsX8_isInTime := goodIn_r _ [35, 36, 16, 17, 18, 5, 19, 7, 20, 21, 22, 23, 24, 25, 26, 27, 12, 1, 13, 14, 15, 28, 29, 30, 31, 37, 38, 39, 40, 41, 42, 43, 44, 45, 46, 47, 48, 49, 50, 51, 52, 53, 54, 55, 56, 57] (by decide +kernel) (by decide +kernel)
set_option maxRecDepth 20000 in
theorem gX8_ofPerson_X8_isInTime : GoodIn wsX8_ofPerson (wsV RX8 129 RX8 yX8_isInTime wsX8_isInTime) := goodIn_app (goodIn_of _ (by decide +kernel)) ggX8_ofPerson_X8_isInTime
theorem dX8_ofPerson_0 : decode cX8_ofPerson 0 = .ok (.aload_n 0, 1) := by decide +kernel
theorem dX8_ofPerson_1 : decode cX8_ofPerson 1 = .ok (.iload_n 1, 1) := by decide +kernel
theorem dX8_ofPerson_2 : decode cX8_ofPerson 2 = .ok (.invokevirtual 63, 3) := by decide +kernel
theorem dX8_ofPerson_5 : decode cX8_ofPerson 5 = .ok (.ifCond .ne 5, 3) := by decide +kernel
theorem dX8_ofPerson_8 : decode cX8_ofPerson 8 = .ok (.iconst (-1), 1) := by decide +kernel
theorem dX8_ofPerson_9 : decode cX8_ofPerson 9 = .ok (.ireturn, 1) := by decide +kernel
theorem dX8_ofPerson_10 : decode cX8_ofPerson 10 = .ok (.iload_n 2, 1) := by decide +kernel
theorem dX8_ofPerson_11 : decode cX8_ofPerson 11 = .ok (.tableswitch 77 0 4 #[33, 40, 46, 52, 63], 33) := by decide +kernel
theorem dX8_ofPerson_44 : decode cX8_ofPerson 44 = .ok (.aload_n 0, 1) := by decide +kernel
theorem dX8_ofPerson_45 : decode cX8_ofPerson 45 = .ok (.getfield 19, 3) := by decide +kernel
theorem dX8_ofPerson_48 : decode cX8_ofPerson 48 = .ok (.iload_n 1, 1) := by decide +kernel
theorem dX8_ofPerson_49 : decode cX8_ofPerson 49 = .ok (.iaload, 1) := by decide +kernel
theorem dX8_ofPerson_50 : decode cX8_ofPerson 50 = .ok (.ireturn, 1) := by decide +kernel
theorem dX8_ofPerson_51 : decode cX8_ofPerson 51 = .ok (.aload_n 0, 1) := by decide +kernel
theorem dX8_ofPerson_52 : decode cX8_ofPerson 52 = .ok (.iload_n 1, 1) := by decide +kernel
theorem dX8_ofPerson_53 : decode cX8_ofPerson 53 = .ok (.invokevirtual 126, 3) := by decide +kernel
theorem dX8_ofPerson_56 : decode cX8_ofPerson 56 = .ok (.ireturn, 1) := by decide +kernel
theorem dX8_ofPerson_57 : decode cX8_ofPerson 57 = .ok (.aload_n 0, 1) := by decide +kernel
theorem dX8_ofPerson_58 : decode cX8_ofPerson 58 = .ok (.iload_n 1, 1) := by decide +kernel
theorem dX8_ofPerson_59 : decode cX8_ofPerson 59 = .ok (.invokevirtual 120, 3) := by decide +kernel
theorem dX8_ofPerson_62 : decode cX8_ofPerson 62 = .ok (.ireturn, 1) := by decide +kernel
theorem dX8_ofPerson_63 : decode cX8_ofPerson 63 = .ok (.aload_n 0, 1) := by decide +kernel
theorem dX8_ofPerson_64 : decode cX8_ofPerson 64 = .ok (.iload_n 1, 1) := by decide +kernel
theorem dX8_ofPerson_65 : decode cX8_ofPerson 65 = .ok (.aload_n 0, 1) := by decide +kernel
theorem dX8_ofPerson_66 : decode cX8_ofPerson 66 = .ok (.iload_n 1, 1) := by decide +kernel
theorem dX8_ofPerson_67 : decode cX8_ofPerson 67 = .ok (.invokevirtual 120, 3) := by decide +kernel
theorem dX8_ofPerson_70 : decode cX8_ofPerson 70 = .ok (.invokevirtual 123, 3) := by decide +kernel
theorem dX8_ofPerson_73 : decode cX8_ofPerson 73 = .ok (.ireturn, 1) := by decide +kernel
theorem dX8_ofPerson_74 : decode cX8_ofPerson 74 = .ok (.aload_n 0, 1) := by decide +kernel
theorem dX8_ofPerson_75 : decode cX8_ofPerson 75 = .ok (.iload_n 1, 1) := by decide +kernel
theorem dX8_ofPerson_76 : decode cX8_ofPerson 76 = .ok (.invokevirtual 129, 3) := by decide +kernel
theorem dX8_ofPerson_79 : decode cX8_ofPerson 79 = .ok (.ifCond .eq 7, 3) := by decide +kernel
theorem dX8_ofPerson_82 : decode cX8_ofPerson 82 = .ok (.iconst 1, 1) := by decide +kernel
theorem dX8_ofPerson_83 : decode cX8_ofPerson 83 = .ok (.goto 4, 3) := by decide +kernel
theorem dX8_ofPerson_86 : decode cX8_ofPerson 86 = .ok (.iconst 0, 1) := by decide +kernel
theorem dX8_ofPerson_87 : decode cX8_ofPerson 87 = .ok (.ireturn, 1) := by decide +kernel
theorem dX8_ofPerson_88 : decode cX8_ofPerson 88 = .ok (.bipush (-2), 2) := by decide +kernel
theorem dX8_ofPerson_90 : decode cX8_ofPerson 90 = .ok (.ireturn, 1) := by decide +kernel
set_option maxRecDepth 20000 in
theorem ggX8_owe_X8_areTwo : GoodIn wsX8_owe wsX8_areTwo := goodIn_r _ [6, 7, 8, 9, 5, 10, 11, 18, 19, 20, 21, 22, 23, 24, 25, 26, 27, 28, 29, 30, 31, 32, 33, 34, 35, 36, 37, 38] (by decide +kernel) (by decide +kernel)
set_option maxRecDepth 20000 in
theorem gX8_owe_X8_areTwo : GoodIn wsX8_owe (wsV RX8 132 RX8 yX8_areTwo wsX8_areTwo) := goodIn_app (goodIn_of _ (by decide +kernel)) ggX8_owe_X8_areTwo
set_option maxRecDepth 20000 in
theorem ggX8_owe_X8_within : GoodIn wsX8_owe wsX8_within := goodIn_r _ [14] (by decide +kernel) (by decide +kernel)
set_option maxRecDepth 20000 in
theorem gX8_owe_X8_within : GoodIn wsX8_owe (va_wsS RX8 56 yX8_within wsX8_within) := goodIn_app (goodIn_of _ (by decide +kernel)) ggX8_owe_X8_within
set_option maxRecDepth 20000 in
theorem ggX8_owe_X8_spot : GoodIn wsX8_owe wsX8_spot := goodIn_r _ [17] (by decide +kernel) (by decide +kernel)
set_option maxRecDepth 20000 in
theorem gX8_owe_X8_spot : GoodIn wsX8_owe (va_wsS RX8 110 yX8_spot wsX8_spot) := goodIn_app (goodIn_of _ (by decide +kernel)) ggX8_owe_X8_spot
theorem dX8_owe_0 : decode cX8_owe 0 = .ok (.aload_n 0, 1) := by decide +kernel
theorem dX8_owe_1 : decode cX8_owe 1 = .ok (.iload_n 1, 1) := by decide +kernel
theorem dX8_owe_2 : decode cX8_owe 2 = .ok (.iload_n 2, 1) := by decide +kernel
theorem dX8_owe_3 : decode cX8_owe 3 = .ok (.invokevirtual 132, 3) := by decide +kernel
theorem dX8_owe_6 : decode cX8_owe 6 = .ok (.ifCond .ne 5, 3) := by decide +kernel
theorem dX8_owe_9 : decode cX8_owe 9 = .ok (.iconst (-1), 1) := by decide +kernel
theorem dX8_owe_10 : decode cX8_owe 10 = .ok (.ireturn, 1) := by decide +kernel
theorem dX8_owe_11 : decode cX8_owe 11 = .ok (.iload_n 3, 1) := by decide +kernel
theorem dX8_owe_12 : decode cX8_owe 12 = .ok (.iconst 0, 1) := by decide +kernel
theorem dX8_owe_13 : decode cX8_owe 13 = .ok (.bipush 9, 2) := by decide +kernel
theorem dX8_owe_15 : decode cX8_owe 15 = .ok (.invokestatic 56, 3) := by decide +kernel
theorem dX8_owe_18 : decode cX8_owe 18 = .ok (.ifCond .ne 6, 3) := by decide +kernel
theorem dX8_owe_21 : decode cX8_owe 21 = .ok (.bipush (-2), 2) := by decide +kernel
theorem dX8_owe_23 : decode cX8_owe 23 = .ok (.ireturn, 1) := by decide +kernel
theorem dX8_owe_24 : decode cX8_owe 24 = .ok (.aload_n 0, 1) := by decide +kernel
theorem dX8_owe_25 : decode cX8_owe 25 = .ok (.getfield 22, 3) := by decide +kernel
theorem dX8_owe_28 : decode cX8_owe 28 = .ok (.iload_n 1, 1) := by decide +kernel
theorem dX8_owe_29 : decode cX8_owe 29 = .ok (.iload_n 2, 1) := by decide +kernel
theorem dX8_owe_30 : decode cX8_owe 30 = .ok (.invokestatic 110, 3) := by decide +kernel
theorem dX8_owe_33 : decode cX8_owe 33 = .ok (.iaload, 1) := by decide +kernel
theorem dX8_owe_34 : decode cX8_owe 34 = .ok (.istore 4, 2) := by decide +kernel
theorem dX8_owe_36 : decode cX8_owe 36 = .ok (.aload_n 0, 1) := by decide +kernel
theorem dX8_owe_37 : decode cX8_owe 37 = .ok (.getfield 22, 3) := by decide +kernel
theorem dX8_owe_40 : decode cX8_owe 40 = .ok (.iload_n 1, 1) := by decide +kernel
theorem dX8_owe_41 : decode cX8_owe 41 = .ok (.iload_n 2, 1) := by decide +kernel
theorem dX8_owe_42 : decode cX8_owe 42 = .ok (.invokestatic 110, 3) := by decide +kernel
theorem dX8_owe_45 : decode cX8_owe 45 = .ok (.iload_n 3, 1) := by decide +kernel
theorem dX8_owe_46 : decode cX8_owe 46 = .ok (.iastore, 1) := by decide +kernel
theorem dX8_owe_47 : decode cX8_owe 47 = .ok (.iload 4, 2) := by decide +kernel
theorem dX8_owe_49 : decode cX8_owe 49 = .ok (.ireturn, 1) := by decide +kernel
set_option maxRecDepth 20000 in
theorem ggX8_owes_X8_isPerson : GoodIn wsX8_owes wsX8_isPerson := goodIn_r _ [6, 7, 11, 12, 13, 14, 15, 16, 17, 18, 19, 20, 21, 22, 23, 24, 25, 26, 27, 28, 29, 30, 31] (by decide +kernel) (by decide +kernel)
set_option maxRecDepth 20000 in
theorem gX8_owes_X8_isPerson : GoodIn wsX8_owes (wsV RX8 63 RX8 yX8_isPerson wsX8_isPerson) := goodIn_app (goodIn_of _ (by decide +kernel)) ggX8_owes_X8_isPerson
set_option maxRecDepth 20000 in
theorem ggX8_owes_X8_spot : GoodIn wsX8_owes wsX8_spot := goodIn_r _ [10] (by decide +kernel) (by decide +kernel)
set_option maxRecDepth 20000 in
theorem gX8_owes_X8_spot : GoodIn wsX8_owes (va_wsS RX8 110 yX8_spot wsX8_spot) := goodIn_app (goodIn_of _ (by decide +kernel)) ggX8_owes_X8_spot
theorem dX8_owes_0 : decode cX8_owes 0 = .ok (.aload_n 0, 1) := by decide +kernel
theorem dX8_owes_1 : decode cX8_owes 1 = .ok (.iload_n 1, 1) := by decide +kernel
theorem dX8_owes_2 : decode cX8_owes 2 = .ok (.invokevirtual 63, 3) := by decide +kernel
theorem dX8_owes_5 : decode cX8_owes 5 = .ok (.ifCond .eq 24, 3) := by decide +kernel
theorem dX8_owes_8 : decode cX8_owes 8 = .ok (.aload_n 0, 1) := by decide +kernel
theorem dX8_owes_9 : decode cX8_owes 9 = .ok (.iload_n 2, 1) := by decide +kernel
theorem dX8_owes_10 : decode cX8_owes 10 = .ok (.invokevirtual 63, 3) := by decide +kernel
theorem dX8_owes_13 : decode cX8_owes 13 = .ok (.ifCond .eq 16, 3) := by decide +kernel
theorem dX8_owes_16 : decode cX8_owes 16 = .ok (.aload_n 0, 1) := by decide +kernel
theorem dX8_owes_17 : decode cX8_owes 17 = .ok (.getfield 22, 3) := by decide +kernel
theorem dX8_owes_20 : decode cX8_owes 20 = .ok (.iload_n 1, 1) := by decide +kernel
theorem dX8_owes_21 : decode cX8_owes 21 = .ok (.iload_n 2, 1) := by decide +kernel
theorem dX8_owes_22 : decode cX8_owes 22 = .ok (.invokestatic 110, 3) := by decide +kernel
theorem dX8_owes_25 : decode cX8_owes 25 = .ok (.iaload, 1) := by decide +kernel
theorem dX8_owes_26 : decode cX8_owes 26 = .ok (.goto 4, 3) := by decide +kernel
theorem dX8_owes_29 : decode cX8_owes 29 = .ok (.iconst (-1), 1) := by decide +kernel
theorem dX8_owes_30 : decode cX8_owes 30 = .ok (.ireturn, 1) := by decide +kernel
set_option maxRecDepth 20000 in
theorem ggX8_weight_X8_isPerson : GoodIn wsX8_weight wsX8_isPerson := goodIn_r _ [5, 6, 16, 17, 18, 19, 20, 21, 22, 23, 24, 25, 26, 27, 28, 29, 30, 31, 32, 33, 34, 35, 36] (by decide +kernel) (by decide +kernel)
set_option maxRecDepth 20000 in
theorem gX8_weight_X8_isPerson : GoodIn wsX8_weight (wsV RX8 63 RX8 yX8_isPerson wsX8_isPerson) := goodIn_app (goodIn_of _ (by decide +kernel)) ggX8_weight_X8_isPerson
set_option maxRecDepth 20000 in
theorem ggX8_weight_X8_weightOf : GoodIn wsX8_weight wsX8_weightOf := goodIn_r _ [10, 11, 12, 13, 14, 4, 15, 16, 17, 18, 19, 20, 21, 22, 23, 24, 25, 26, 27, 28, 29, 30, 31, 32, 33, 34, 35, 36] (by decide +kernel) (by decide +kernel)
set_option maxRecDepth 20000 in
theorem gX8_weight_X8_weightOf : GoodIn wsX8_weight (wsV RX8 114 RX8 yX8_weightOf wsX8_weightOf) := goodIn_app (goodIn_of _ (by decide +kernel)) ggX8_weight_X8_weightOf
theorem dX8_weight_0 : decode cX8_weight 0 = .ok (.aload_n 0, 1) := by decide +kernel
theorem dX8_weight_1 : decode cX8_weight 1 = .ok (.iload_n 1, 1) := by decide +kernel
theorem dX8_weight_2 : decode cX8_weight 2 = .ok (.invokevirtual 63, 3) := by decide +kernel
theorem dX8_weight_5 : decode cX8_weight 5 = .ok (.ifCond .eq 20, 3) := by decide +kernel
theorem dX8_weight_8 : decode cX8_weight 8 = .ok (.aload_n 0, 1) := by decide +kernel
theorem dX8_weight_9 : decode cX8_weight 9 = .ok (.iload_n 2, 1) := by decide +kernel
theorem dX8_weight_10 : decode cX8_weight 10 = .ok (.invokevirtual 63, 3) := by decide +kernel
theorem dX8_weight_13 : decode cX8_weight 13 = .ok (.ifCond .eq 12, 3) := by decide +kernel
theorem dX8_weight_16 : decode cX8_weight 16 = .ok (.aload_n 0, 1) := by decide +kernel
theorem dX8_weight_17 : decode cX8_weight 17 = .ok (.iload_n 1, 1) := by decide +kernel
theorem dX8_weight_18 : decode cX8_weight 18 = .ok (.iload_n 2, 1) := by decide +kernel
theorem dX8_weight_19 : decode cX8_weight 19 = .ok (.invokevirtual 114, 3) := by decide +kernel
theorem dX8_weight_22 : decode cX8_weight 22 = .ok (.goto 4, 3) := by decide +kernel
theorem dX8_weight_25 : decode cX8_weight 25 = .ok (.iconst (-1), 1) := by decide +kernel
theorem dX8_weight_26 : decode cX8_weight 26 = .ok (.ireturn, 1) := by decide +kernel
set_option maxRecDepth 20000 in
theorem ggX8_bell_X8_within : GoodIn wsX8_bell wsX8_within := goodIn_r _ [6] (by decide +kernel) (by decide +kernel)
set_option maxRecDepth 20000 in
theorem gX8_bell_X8_within : GoodIn wsX8_bell (va_wsS RX8 56 yX8_within wsX8_within) := goodIn_app (goodIn_of _ (by decide +kernel)) ggX8_bell_X8_within
theorem dX8_bell_0 : decode cX8_bell 0 = .ok (.iload_n 1, 1) := by decide +kernel
theorem dX8_bell_1 : decode cX8_bell 1 = .ok (.iconst 0, 1) := by decide +kernel
theorem dX8_bell_2 : decode cX8_bell 2 = .ok (.bipush 9, 2) := by decide +kernel
theorem dX8_bell_4 : decode cX8_bell 4 = .ok (.invokestatic 56, 3) := by decide +kernel
theorem dX8_bell_7 : decode cX8_bell 7 = .ok (.ifCond .ne 6, 3) := by decide +kernel
theorem dX8_bell_10 : decode cX8_bell 10 = .ok (.bipush (-2), 2) := by decide +kernel
theorem dX8_bell_12 : decode cX8_bell 12 = .ok (.ireturn, 1) := by decide +kernel
theorem dX8_bell_13 : decode cX8_bell 13 = .ok (.aload_n 0, 1) := by decide +kernel
theorem dX8_bell_14 : decode cX8_bell 14 = .ok (.getfield 60, 3) := by decide +kernel
theorem dX8_bell_17 : decode cX8_bell 17 = .ok (.ifCond .ne 6, 3) := by decide +kernel
theorem dX8_bell_20 : decode cX8_bell 20 = .ok (.bipush (-3), 2) := by decide +kernel
theorem dX8_bell_22 : decode cX8_bell 22 = .ok (.ireturn, 1) := by decide +kernel
theorem dX8_bell_23 : decode cX8_bell 23 = .ok (.aload_n 0, 1) := by decide +kernel
theorem dX8_bell_24 : decode cX8_bell 24 = .ok (.getfield 93, 3) := by decide +kernel
theorem dX8_bell_27 : decode cX8_bell 27 = .ok (.istore_n 2, 1) := by decide +kernel
theorem dX8_bell_28 : decode cX8_bell 28 = .ok (.aload_n 0, 1) := by decide +kernel
theorem dX8_bell_29 : decode cX8_bell 29 = .ok (.iload_n 1, 1) := by decide +kernel
theorem dX8_bell_30 : decode cX8_bell 30 = .ok (.putfield 93, 3) := by decide +kernel
theorem dX8_bell_33 : decode cX8_bell 33 = .ok (.iload_n 2, 1) := by decide +kernel
theorem dX8_bell_34 : decode cX8_bell 34 = .ok (.ireturn, 1) := by decide +kernel
set_option maxRecDepth 20000 in
theorem ggX8_lighter_X8_isPerson : GoodIn wsX8_lighter wsX8_isPerson := goodIn_r _ [5, 6, 20, 21, 22, 23, 24, 25, 26, 27, 28, 29, 30, 31, 32, 33, 34, 35, 36, 37, 38, 39, 40] (by decide +kernel) (by decide +kernel)
set_option maxRecDepth 20000 in
theorem gX8_lighter_X8_isPerson : GoodIn wsX8_lighter (wsV RX8 63 RX8 yX8_isPerson wsX8_isPerson) := goodIn_app (goodIn_of _ (by decide +kernel)) ggX8_lighter_X8_isPerson
set_option maxRecDepth 20000 in
theorem ggX8_lighter_X8_lighterOf : GoodIn wsX8_lighter wsX8_lighterOf := goodIn_r _ [10, 6, 11, 12, 13, 4, 14, 15, 16, 17, 18, 19, 20, 21, 22, 23, 24, 25, 26, 27, 28, 29, 30, 31, 32, 33, 34, 35, 36, 37, 38, 39, 40] (by decide +kernel) (by decide +kernel)
set_option maxRecDepth 20000 in
theorem gX8_lighter_X8_lighterOf : GoodIn wsX8_lighter (wsV RX8 117 RX8 yX8_lighterOf wsX8_lighterOf) := goodIn_app (goodIn_of _ (by decide +kernel)) ggX8_lighter_X8_lighterOf
theorem dX8_lighter_0 : decode cX8_lighter 0 = .ok (.aload_n 0, 1) := by decide +kernel
theorem dX8_lighter_1 : decode cX8_lighter 1 = .ok (.iload_n 1, 1) := by decide +kernel
theorem dX8_lighter_2 : decode cX8_lighter 2 = .ok (.invokevirtual 63, 3) := by decide +kernel
theorem dX8_lighter_5 : decode cX8_lighter 5 = .ok (.ifCond .eq 11, 3) := by decide +kernel
theorem dX8_lighter_8 : decode cX8_lighter 8 = .ok (.aload_n 0, 1) := by decide +kernel
theorem dX8_lighter_9 : decode cX8_lighter 9 = .ok (.iload_n 1, 1) := by decide +kernel
theorem dX8_lighter_10 : decode cX8_lighter 10 = .ok (.invokevirtual 117, 3) := by decide +kernel
theorem dX8_lighter_13 : decode cX8_lighter 13 = .ok (.goto 4, 3) := by decide +kernel
theorem dX8_lighter_16 : decode cX8_lighter 16 = .ok (.iconst (-1), 1) := by decide +kernel
theorem dX8_lighter_17 : decode cX8_lighter 17 = .ok (.ireturn, 1) := by decide +kernel
set_option maxRecDepth 20000 in
theorem ggX8_lit_X8_lighterOf : GoodIn wsX8_lit wsX8_lighterOf := goodIn_r _ [6, 1, 7, 8, 9, 5, 10, 11, 12, 13, 14, 15, 16, 17, 18, 19, 20, 21, 22, 23, 24, 25, 26, 27, 28, 29, 30, 31, 32, 33, 34, 35, 36] (by decide +kernel) (by decide +kernel)
set_option maxRecDepth 20000 in
theorem gX8_lit_X8_lighterOf : GoodIn wsX8_lit (wsV RX8 117 RX8 yX8_lighterOf wsX8_lighterOf) := goodIn_app (goodIn_of _ (by decide +kernel)) ggX8_lit_X8_lighterOf
theorem dX8_lit_0 : decode cX8_lit 0 = .ok (.iconst 0, 1) := by decide +kernel
theorem dX8_lit_1 : decode cX8_lit 1 = .ok (.istore_n 1, 1) := by decide +kernel
theorem dX8_lit_2 : decode cX8_lit 2 = .ok (.iconst 0, 1) := by decide +kernel
theorem dX8_lit_3 : decode cX8_lit 3 = .ok (.istore_n 2, 1) := by decide +kernel
theorem dX8_lit_4 : decode cX8_lit 4 = .ok (.iload_n 2, 1) := by decide +kernel
theorem dX8_lit_5 : decode cX8_lit 5 = .ok (.aload_n 0, 1) := by decide +kernel
theorem dX8_lit_6 : decode cX8_lit 6 = .ok (.getfield 60, 3) := by decide +kernel
theorem dX8_lit_9 : decode cX8_lit 9 = .ok (.if_icmp .ge 29, 3) := by decide +kernel
theorem dX8_lit_12 : decode cX8_lit 12 = .ok (.iload_n 1, 1) := by decide +kernel
theorem dX8_lit_13 : decode cX8_lit 13 = .ok (.aload_n 0, 1) := by decide +kernel
theorem dX8_lit_14 : decode cX8_lit 14 = .ok (.iload_n 2, 1) := by decide +kernel
theorem dX8_lit_15 : decode cX8_lit 15 = .ok (.invokevirtual 117, 3) := by decide +kernel
theorem dX8_lit_18 : decode cX8_lit 18 = .ok (.bipush (-9), 2) := by decide +kernel
theorem dX8_lit_20 : decode cX8_lit 20 = .ok (.if_icmp .ne 7, 3) := by decide +kernel
theorem dX8_lit_23 : decode cX8_lit 23 = .ok (.iconst 0, 1) := by decide +kernel
theorem dX8_lit_24 : decode cX8_lit 24 = .ok (.goto 6, 3) := by decide +kernel
theorem dX8_lit_27 : decode cX8_lit 27 = .ok (.iconst 1, 1) := by decide +kernel
theorem dX8_lit_28 : decode cX8_lit 28 = .ok (.iload_n 2, 1) := by decide +kernel
theorem dX8_lit_29 : decode cX8_lit 29 = .ok (.ishl, 1) := by decide +kernel
theorem dX8_lit_30 : decode cX8_lit 30 = .ok (.ior, 1) := by decide +kernel
theorem dX8_lit_31 : decode cX8_lit 31 = .ok (.istore_n 1, 1) := by decide +kernel
theorem dX8_lit_32 : decode cX8_lit 32 = .ok (.iinc 2 1, 3) := by decide +kernel
theorem dX8_lit_35 : decode cX8_lit 35 = .ok (.goto (-31), 3) := by decide +kernel
theorem dX8_lit_38 : decode cX8_lit 38 = .ok (.iload_n 1, 1) := by decide +kernel
theorem dX8_lit_39 : decode cX8_lit 39 = .ok (.ireturn, 1) := by decide +kernel
set_option maxRecDepth 20000 in
theorem ggX8_goDusk_X8_lighterOf : GoodIn wsX8_goDusk wsX8_lighterOf := goodIn_r _ [9, 1, 10, 11, 12, 8, 13, 4, 14, 15, 16, 17, 31, 32, 33, 34, 35, 36, 37, 38, 39, 40, 41, 42, 43, 44, 45, 46, 47, 48, 49, 50, 51] (by decide +kernel) (by decide +kernel)
set_option maxRecDepth 20000 in
theorem gX8_goDusk_X8_lighterOf : GoodIn wsX8_goDusk (wsV RX8 117 RX8 yX8_lighterOf wsX8_lighterOf) := goodIn_app (goodIn_of _ (by decide +kernel)) ggX8_goDusk_X8_lighterOf
set_option maxRecDepth 20000 in
theorem ggX8_goDusk_X8_isInTime : GoodIn wsX8_goDusk wsX8_isInTime := goodIn_r _ [21, 22, 23, 24, 25, 8, 26, 1, 5, 6, 7, 9, 10, 11, 12, 13, 4, 14, 15, 16, 17, 27, 28, 29, 30, 31, 32, 33, 34, 35, 36, 37, 38, 39, 40, 41, 42, 43, 44, 45, 46, 47, 48, 49, 50, 51] (by decide +kernel) (by decide +kernel)
set_option maxRecDepth 20000 in
theorem gX8_goDusk_X8_isInTime : GoodIn wsX8_goDusk (wsV RX8 129 RX8 yX8_isInTime wsX8_isInTime) := goodIn_app (goodIn_of _ (by decide +kernel)) ggX8_goDusk_X8_isInTime
set_option maxRecDepth 20000 in
theorem ggX8_goDusk_X8_spot : GoodIn wsX8_goDusk wsX8_spot := goodIn_r _ [17] (by decide +kernel) (by decide +kernel)
set_option maxRecDepth 20000 in
theorem gX8_goDusk_X8_spot : GoodIn wsX8_goDusk (va_wsS RX8 110 yX8_spot wsX8_spot) := goodIn_app (goodIn_of _ (by decide +kernel)) ggX8_goDusk_X8_spot
theorem dX8_goDusk_0 : decode cX8_goDusk 0 = .ok (.iconst 0, 1) := by decide +kernel
theorem dX8_goDusk_1 : decode cX8_goDusk 1 = .ok (.istore_n 1, 1) := by decide +kernel
theorem dX8_goDusk_2 : decode cX8_goDusk 2 = .ok (.iload_n 1, 1) := by decide +kernel
theorem dX8_goDusk_3 : decode cX8_goDusk 3 = .ok (.aload_n 0, 1) := by decide +kernel
theorem dX8_goDusk_4 : decode cX8_goDusk 4 = .ok (.getfield 60, 3) := by decide +kernel
theorem dX8_goDusk_7 : decode cX8_goDusk 7 = .ok (.if_icmp .ge 31, 3) := by decide +kernel
theorem dX8_goDusk_10 : decode cX8_goDusk 10 = .ok (.aload_n 0, 1) := by decide +kernel
theorem dX8_goDusk_11 : decode cX8_goDusk 11 = .ok (.getfield 31, 3) := by decide +kernel
theorem dX8_goDusk_14 : decode cX8_goDusk 14 = .ok (.iload_n 1, 1) := by decide +kernel
theorem dX8_goDusk_15 : decode cX8_goDusk 15 = .ok (.aload_n 0, 1) := by decide +kernel
theorem dX8_goDusk_16 : decode cX8_goDusk 16 = .ok (.iload_n 1, 1) := by decide +kernel
theorem dX8_goDusk_17 : decode cX8_goDusk 17 = .ok (.invokevirtual 117, 3) := by decide +kernel
theorem dX8_goDusk_20 : decode cX8_goDusk 20 = .ok (.iastore, 1) := by decide +kernel
theorem dX8_goDusk_21 : decode cX8_goDusk 21 = .ok (.aload_n 0, 1) := by decide +kernel
theorem dX8_goDusk_22 : decode cX8_goDusk 22 = .ok (.getfield 34, 3) := by decide +kernel
theorem dX8_goDusk_25 : decode cX8_goDusk 25 = .ok (.iload_n 1, 1) := by decide +kernel
theorem dX8_goDusk_26 : decode cX8_goDusk 26 = .ok (.aload_n 0, 1) := by decide +kernel
theorem dX8_goDusk_27 : decode cX8_goDusk 27 = .ok (.iload_n 1, 1) := by decide +kernel
theorem dX8_goDusk_28 : decode cX8_goDusk 28 = .ok (.invokevirtual 129, 3) := by decide +kernel
theorem dX8_goDusk_31 : decode cX8_goDusk 31 = .ok (.bastore, 1) := by decide +kernel
theorem dX8_goDusk_32 : decode cX8_goDusk 32 = .ok (.iinc 1 1, 3) := by decide +kernel
theorem dX8_goDusk_35 : decode cX8_goDusk 35 = .ok (.goto (-33), 3) := by decide +kernel
theorem dX8_goDusk_38 : decode cX8_goDusk 38 = .ok (.iconst 0, 1) := by decide +kernel
theorem dX8_goDusk_39 : decode cX8_goDusk 39 = .ok (.istore_n 1, 1) := by decide +kernel
theorem dX8_goDusk_40 : decode cX8_goDusk 40 = .ok (.iload_n 1, 1) := by decide +kernel
theorem dX8_goDusk_41 : decode cX8_goDusk 41 = .ok (.aload_n 0, 1) := by decide +kernel
theorem dX8_goDusk_42 : decode cX8_goDusk 42 = .ok (.getfield 60, 3) := by decide +kernel
theorem dX8_goDusk_45 : decode cX8_goDusk 45 = .ok (.if_icmp .ge 81, 3) := by decide +kernel
theorem dX8_goDusk_48 : decode cX8_goDusk 48 = .ok (.aload_n 0, 1) := by decide +kernel
theorem dX8_goDusk_49 : decode cX8_goDusk 49 = .ok (.getfield 31, 3) := by decide +kernel
theorem dX8_goDusk_52 : decode cX8_goDusk 52 = .ok (.iload_n 1, 1) := by decide +kernel
theorem dX8_goDusk_53 : decode cX8_goDusk 53 = .ok (.iaload, 1) := by decide +kernel
theorem dX8_goDusk_54 : decode cX8_goDusk 54 = .ok (.istore_n 2, 1) := by decide +kernel
theorem dX8_goDusk_55 : decode cX8_goDusk 55 = .ok (.iload_n 2, 1) := by decide +kernel
theorem dX8_goDusk_56 : decode cX8_goDusk 56 = .ok (.bipush (-9), 2) := by decide +kernel
theorem dX8_goDusk_58 : decode cX8_goDusk 58 = .ok (.if_icmp .eq 62, 3) := by decide +kernel
theorem dX8_goDusk_61 : decode cX8_goDusk 61 = .ok (.aload_n 0, 1) := by decide +kernel
theorem dX8_goDusk_62 : decode cX8_goDusk 62 = .ok (.getfield 34, 3) := by decide +kernel
theorem dX8_goDusk_65 : decode cX8_goDusk 65 = .ok (.iload_n 2, 1) := by decide +kernel
theorem dX8_goDusk_66 : decode cX8_goDusk 66 = .ok (.baload, 1) := by decide +kernel
theorem dX8_goDusk_67 : decode cX8_goDusk 67 = .ok (.ifCond .eq 18, 3) := by decide +kernel
theorem dX8_goDusk_70 : decode cX8_goDusk 70 = .ok (.aload_n 0, 1) := by decide +kernel
theorem dX8_goDusk_71 : decode cX8_goDusk 71 = .ok (.getfield 22, 3) := by decide +kernel
theorem dX8_goDusk_74 : decode cX8_goDusk 74 = .ok (.iload_n 2, 1) := by decide +kernel
theorem dX8_goDusk_75 : decode cX8_goDusk 75 = .ok (.iload_n 1, 1) := by decide +kernel
theorem dX8_goDusk_76 : decode cX8_goDusk 76 = .ok (.invokestatic 110, 3) := by decide +kernel
theorem dX8_goDusk_79 : decode cX8_goDusk 79 = .ok (.iaload, 1) := by decide +kernel
theorem dX8_goDusk_80 : decode cX8_goDusk 80 = .ok (.iconst 1, 1) := by decide +kernel
theorem dX8_goDusk_81 : decode cX8_goDusk 81 = .ok (.isub, 1) := by decide +kernel
theorem dX8_goDusk_82 : decode cX8_goDusk 82 = .ok (.goto 15, 3) := by decide +kernel
theorem dX8_goDusk_85 : decode cX8_goDusk 85 = .ok (.iconst 2, 1) := by decide +kernel
theorem dX8_goDusk_86 : decode cX8_goDusk 86 = .ok (.aload_n 0, 1) := by decide +kernel
theorem dX8_goDusk_87 : decode cX8_goDusk 87 = .ok (.getfield 22, 3) := by decide +kernel
theorem dX8_goDusk_90 : decode cX8_goDusk 90 = .ok (.iload_n 2, 1) := by decide +kernel
theorem dX8_goDusk_91 : decode cX8_goDusk 91 = .ok (.iload_n 1, 1) := by decide +kernel
theorem dX8_goDusk_92 : decode cX8_goDusk 92 = .ok (.invokestatic 110, 3) := by decide +kernel
theorem dX8_goDusk_95 : decode cX8_goDusk 95 = .ok (.iaload, 1) := by decide +kernel
theorem dX8_goDusk_96 : decode cX8_goDusk 96 = .ok (.imul, 1) := by decide +kernel
theorem dX8_goDusk_97 : decode cX8_goDusk 97 = .ok (.istore_n 3, 1) := by decide +kernel
theorem dX8_goDusk_98 : decode cX8_goDusk 98 = .ok (.aload_n 0, 1) := by decide +kernel
theorem dX8_goDusk_99 : decode cX8_goDusk 99 = .ok (.getfield 22, 3) := by decide +kernel
theorem dX8_goDusk_102 : decode cX8_goDusk 102 = .ok (.iload_n 2, 1) := by decide +kernel
theorem dX8_goDusk_103 : decode cX8_goDusk 103 = .ok (.iload_n 1, 1) := by decide +kernel
theorem dX8_goDusk_104 : decode cX8_goDusk 104 = .ok (.invokestatic 110, 3) := by decide +kernel
theorem dX8_goDusk_107 : decode cX8_goDusk 107 = .ok (.iload_n 3, 1) := by decide +kernel
theorem dX8_goDusk_108 : decode cX8_goDusk 108 = .ok (.bipush 9, 2) := by decide +kernel
theorem dX8_goDusk_110 : decode cX8_goDusk 110 = .ok (.if_icmp .le 8, 3) := by decide +kernel
theorem dX8_goDusk_113 : decode cX8_goDusk 113 = .ok (.bipush 9, 2) := by decide +kernel
theorem dX8_goDusk_115 : decode cX8_goDusk 115 = .ok (.goto 4, 3) := by decide +kernel
theorem dX8_goDusk_118 : decode cX8_goDusk 118 = .ok (.iload_n 3, 1) := by decide +kernel
theorem dX8_goDusk_119 : decode cX8_goDusk 119 = .ok (.iastore, 1) := by decide +kernel
theorem dX8_goDusk_120 : decode cX8_goDusk 120 = .ok (.iinc 1 1, 3) := by decide +kernel
theorem dX8_goDusk_123 : decode cX8_goDusk 123 = .ok (.goto (-83), 3) := by decide +kernel
theorem dX8_goDusk_126 : decode cX8_goDusk 126 = .ok (.return_, 1) := by decide +kernel
set_option maxRecDepth 20000 in
theorem ggX8_dusks_X8_within : GoodIn wsX8_dusks wsX8_within := goodIn_r _ [5] (by decide +kernel) (by decide +kernel)
set_option maxRecDepth 20000 in
theorem gX8_dusks_X8_within : GoodIn wsX8_dusks (va_wsS RX8 56 yX8_within wsX8_within) := goodIn_app (goodIn_of _ (by decide +kernel)) ggX8_dusks_X8_within
set_option maxRecDepth 20000 in
theorem ggX8_dusks_X8_goDusk : GoodIn wsX8_dusks wsX8_goDusk := goodIn_r _ [9, 1, 10, 11, 12, 13, 14, 15, 4, 16, 17, 18, 19, 20, 21, 22, 23, 24, 25, 26, 27, 28, 29, 30, 31, 32, 33, 34, 35, 36, 37, 42, 43, 44, 45, 46, 47, 48, 49, 50, 51, 52, 53, 54, 55, 56, 57, 58, 59, 60, 61, 62] (by decide +kernel) (by decide +kernel)
set_option maxRecDepth 20000 in
theorem gX8_dusks_X8_goDusk : GoodIn wsX8_dusks (wsV RX8 135 RX8 yX8_goDusk wsX8_goDusk) := goodIn_app (goodIn_of _ (by decide +kernel)) ggX8_dusks_X8_goDusk
set_option maxRecDepth 20000 in
theorem ggX8_dusks_X8_lit : GoodIn wsX8_dusks wsX8_lit := goodIn_r _ [41, 1, 13, 14, 15, 4, 16, 17, 18, 19, 20, 12, 21, 22, 23, 24, 42, 43, 44, 45, 46, 47, 48, 49, 50, 51, 52, 53, 54, 55, 56, 57, 58, 59, 60, 61, 62] (by decide +kernel) (by decide +kernel)
set_option maxRecDepth 20000 in
theorem gX8_dusks_X8_lit : GoodIn wsX8_dusks (wsV RX8 138 RX8 yX8_lit wsX8_lit) := goodIn_app (goodIn_of _ (by decide +kernel)) ggX8_dusks_X8_lit
theorem dX8_dusks_0 : decode cX8_dusks 0 = .ok (.iload_n 1, 1) := by decide +kernel
theorem dX8_dusks_1 : decode cX8_dusks 1 = .ok (.iconst 0, 1) := by decide +kernel
theorem dX8_dusks_2 : decode cX8_dusks 2 = .ok (.bipush 60, 2) := by decide +kernel
theorem dX8_dusks_4 : decode cX8_dusks 4 = .ok (.invokestatic 56, 3) := by decide +kernel
theorem dX8_dusks_7 : decode cX8_dusks 7 = .ok (.ifCond .ne 6, 3) := by decide +kernel
theorem dX8_dusks_10 : decode cX8_dusks 10 = .ok (.bipush (-2), 2) := by decide +kernel
theorem dX8_dusks_12 : decode cX8_dusks 12 = .ok (.ireturn, 1) := by decide +kernel
theorem dX8_dusks_13 : decode cX8_dusks 13 = .ok (.aload_n 0, 1) := by decide +kernel
theorem dX8_dusks_14 : decode cX8_dusks 14 = .ok (.getfield 60, 3) := by decide +kernel
theorem dX8_dusks_17 : decode cX8_dusks 17 = .ok (.ifCond .ne 6, 3) := by decide +kernel
theorem dX8_dusks_20 : decode cX8_dusks 20 = .ok (.bipush (-3), 2) := by decide +kernel
theorem dX8_dusks_22 : decode cX8_dusks 22 = .ok (.ireturn, 1) := by decide +kernel
theorem dX8_dusks_23 : decode cX8_dusks 23 = .ok (.iconst 0, 1) := by decide +kernel
theorem dX8_dusks_24 : decode cX8_dusks 24 = .ok (.istore_n 2, 1) := by decide +kernel
theorem dX8_dusks_25 : decode cX8_dusks 25 = .ok (.iload_n 2, 1) := by decide +kernel
theorem dX8_dusks_26 : decode cX8_dusks 26 = .ok (.iload_n 1, 1) := by decide +kernel
theorem dX8_dusks_27 : decode cX8_dusks 27 = .ok (.if_icmp .ge 13, 3) := by decide +kernel
theorem dX8_dusks_30 : decode cX8_dusks 30 = .ok (.aload_n 0, 1) := by decide +kernel
theorem dX8_dusks_31 : decode cX8_dusks 31 = .ok (.invokevirtual 135, 3) := by decide +kernel
theorem dX8_dusks_34 : decode cX8_dusks 34 = .ok (.iinc 2 1, 3) := by decide +kernel
theorem dX8_dusks_37 : decode cX8_dusks 37 = .ok (.goto (-12), 3) := by decide +kernel
theorem dX8_dusks_40 : decode cX8_dusks 40 = .ok (.aload_n 0, 1) := by decide +kernel
theorem dX8_dusks_41 : decode cX8_dusks 41 = .ok (.invokevirtual 138, 3) := by decide +kernel
theorem dX8_dusks_44 : decode cX8_dusks 44 = .ok (.ireturn, 1) := by decide +kernel
theorem dX8_keep_0 : decode cX8_keep 0 = .ok (.iconst 0, 1) := by decide +kernel
theorem dX8_keep_1 : decode cX8_keep 1 = .ok (.istore_n 1, 1) := by decide +kernel
theorem dX8_keep_2 : decode cX8_keep 2 = .ok (.iload_n 1, 1) := by decide +kernel
theorem dX8_keep_3 : decode cX8_keep 3 = .ok (.bipush 36, 2) := by decide +kernel
theorem dX8_keep_5 : decode cX8_keep 5 = .ok (.if_icmp .ge 21, 3) := by decide +kernel
theorem dX8_keep_8 : decode cX8_keep 8 = .ok (.aload_n 0, 1) := by decide +kernel
theorem dX8_keep_9 : decode cX8_keep 9 = .ok (.getfield 38, 3) := by decide +kernel
theorem dX8_keep_12 : decode cX8_keep 12 = .ok (.iload_n 1, 1) := by decide +kernel
theorem dX8_keep_13 : decode cX8_keep 13 = .ok (.aload_n 0, 1) := by decide +kernel
theorem dX8_keep_14 : decode cX8_keep 14 = .ok (.getfield 22, 3) := by decide +kernel
theorem dX8_keep_17 : decode cX8_keep 17 = .ok (.iload_n 1, 1) := by decide +kernel
theorem dX8_keep_18 : decode cX8_keep 18 = .ok (.iaload, 1) := by decide +kernel
theorem dX8_keep_19 : decode cX8_keep 19 = .ok (.iastore, 1) := by decide +kernel
theorem dX8_keep_20 : decode cX8_keep 20 = .ok (.iinc 1 1, 3) := by decide +kernel
theorem dX8_keep_23 : decode cX8_keep 23 = .ok (.goto (-21), 3) := by decide +kernel
theorem dX8_keep_26 : decode cX8_keep 26 = .ok (.return_, 1) := by decide +kernel
theorem dX8_restore_0 : decode cX8_restore 0 = .ok (.iconst 0, 1) := by decide +kernel
theorem dX8_restore_1 : decode cX8_restore 1 = .ok (.istore_n 1, 1) := by decide +kernel
theorem dX8_restore_2 : decode cX8_restore 2 = .ok (.iload_n 1, 1) := by decide +kernel
theorem dX8_restore_3 : decode cX8_restore 3 = .ok (.bipush 36, 2) := by decide +kernel
theorem dX8_restore_5 : decode cX8_restore 5 = .ok (.if_icmp .ge 21, 3) := by decide +kernel
theorem dX8_restore_8 : decode cX8_restore 8 = .ok (.aload_n 0, 1) := by decide +kernel
theorem dX8_restore_9 : decode cX8_restore 9 = .ok (.getfield 22, 3) := by decide +kernel
theorem dX8_restore_12 : decode cX8_restore 12 = .ok (.iload_n 1, 1) := by decide +kernel
theorem dX8_restore_13 : decode cX8_restore 13 = .ok (.aload_n 0, 1) := by decide +kernel
theorem dX8_restore_14 : decode cX8_restore 14 = .ok (.getfield 38, 3) := by decide +kernel
theorem dX8_restore_17 : decode cX8_restore 17 = .ok (.iload_n 1, 1) := by decide +kernel
theorem dX8_restore_18 : decode cX8_restore 18 = .ok (.iaload, 1) := by decide +kernel
theorem dX8_restore_19 : decode cX8_restore 19 = .ok (.iastore, 1) := by decide +kernel
theorem dX8_restore_20 : decode cX8_restore 20 = .ok (.iinc 1 1, 3) := by decide +kernel
theorem dX8_restore_23 : decode cX8_restore 23 = .ok (.goto (-21), 3) := by decide +kernel
theorem dX8_restore_26 : decode cX8_restore 26 = .ok (.return_, 1) := by decide +kernel
set_option maxRecDepth 20000 in
theorem ggX8_later_X8_isPerson : GoodIn wsX8_later wsX8_isPerson := goodIn_r _ [5, 6, 51, 52, 53, 54, 55, 56, 57, 58, 59, 60, 61, 62, 63, 64, 65, 66, 67, 68, 69, 70, 71] (by decide +kernel) (by decide +kernel)
set_option maxRecDepth 20000 in
theorem gX8_later_X8_isPerson : GoodIn wsX8_later (wsV RX8 63 RX8 yX8_isPerson wsX8_isPerson) := goodIn_app (goodIn_of _ (by decide +kernel)) ggX8_later_X8_isPerson
set_option maxRecDepth 20000 in
theorem ggX8_later_X8_within : GoodIn wsX8_later wsX8_within := goodIn_r _ [9] (by decide +kernel) (by decide +kernel)
set_option maxRecDepth 20000 in
theorem gX8_later_X8_within : GoodIn wsX8_later (va_wsS RX8 56 yX8_within wsX8_within) := goodIn_app (goodIn_of _ (by decide +kernel)) ggX8_later_X8_within
set_option maxRecDepth 20000 in
theorem ggX8_later_X8_keep : GoodIn wsX8_later wsX8_keep := goodIn_r _ [13, 14, 15, 51, 52, 53, 54, 55, 56, 57, 58, 59, 60, 61, 62, 63, 64, 65, 66, 67, 68, 69, 70, 71] (by decide +kernel) (by decide +kernel)
set_option maxRecDepth 20000 in
theorem gX8_later_X8_keep : GoodIn wsX8_later (wsV RX8 142 RX8 yX8_keep wsX8_keep) := goodIn_app (goodIn_of _ (by decide +kernel)) ggX8_later_X8_keep
set_option maxRecDepth 20000 in
theorem ggX8_later_X8_goDusk : GoodIn wsX8_later wsX8_goDusk := goodIn_r _ [19, 6, 20, 21, 15, 22, 23, 24, 4, 25, 26, 27, 28, 29, 30, 31, 32, 33, 34, 35, 36, 37, 38, 39, 40, 41, 42, 43, 44, 45, 46, 51, 52, 53, 54, 55, 56, 57, 58, 59, 60, 61, 62, 63, 64, 65, 66, 67, 68, 69, 70, 71] (by decide +kernel) (by decide +kernel)
set_option maxRecDepth 20000 in
theorem gX8_later_X8_goDusk : GoodIn wsX8_later (wsV RX8 135 RX8 yX8_goDusk wsX8_goDusk) := goodIn_app (goodIn_of _ (by decide +kernel)) ggX8_later_X8_goDusk
set_option maxRecDepth 20000 in
theorem ggX8_later_X8_lighterOf : GoodIn wsX8_later wsX8_lighterOf := goodIn_r _ [25, 6, 26, 27, 28, 4, 29, 15, 30, 31, 32, 33, 51, 52, 53, 54, 55, 56, 57, 58, 59, 60, 61, 62, 63, 64, 65, 66, 67, 68, 69, 70, 71] (by decide +kernel) (by decide +kernel)
set_option maxRecDepth 20000 in
theorem gX8_later_X8_lighterOf : GoodIn wsX8_later (wsV RX8 117 RX8 yX8_lighterOf wsX8_lighterOf) := goodIn_app (goodIn_of _ (by decide +kernel)) ggX8_later_X8_lighterOf
set_option maxRecDepth 20000 in
theorem ggX8_later_X8_restore : GoodIn wsX8_later wsX8_restore := goodIn_r _ [50, 15, 14, 51, 52, 53, 54, 55, 56, 57, 58, 59, 60, 61, 62, 63, 64, 65, 66, 67, 68, 69, 70, 71] (by decide +kernel) (by decide +kernel)
set_option maxRecDepth 20000 in
theorem gX8_later_X8_restore : GoodIn wsX8_later (wsV RX8 145 RX8 yX8_restore wsX8_restore) := goodIn_app (goodIn_of _ (by decide +kernel)) ggX8_later_X8_restore
theorem dX8_later_0 : decode cX8_later 0 = .ok (.aload_n 0, 1) := by decide +kernel
theorem dX8_later_1 : decode cX8_later 1 = .ok (.iload_n 1, 1) := by decide +kernel
theorem dX8_later_2 : decode cX8_later 2 = .ok (.invokevirtual 63, 3) := by decide +kernel
theorem dX8_later_5 : decode cX8_later 5 = .ok (.ifCond .ne 5, 3) := by decide +kernel
theorem dX8_later_8 : decode cX8_later 8 = .ok (.iconst (-1), 1) := by decide +kernel
theorem dX8_later_9 : decode cX8_later 9 = .ok (.ireturn, 1) := by decide +kernel
theorem dX8_later_10 : decode cX8_later 10 = .ok (.iload_n 2, 1) := by decide +kernel
theorem dX8_later_11 : decode cX8_later 11 = .ok (.iconst 0, 1) := by decide +kernel
theorem dX8_later_12 : decode cX8_later 12 = .ok (.bipush 60, 2) := by decide +kernel
theorem dX8_later_14 : decode cX8_later 14 = .ok (.invokestatic 56, 3) := by decide +kernel
theorem dX8_later_17 : decode cX8_later 17 = .ok (.ifCond .ne 6, 3) := by decide +kernel
theorem dX8_later_20 : decode cX8_later 20 = .ok (.bipush (-2), 2) := by decide +kernel
theorem dX8_later_22 : decode cX8_later 22 = .ok (.ireturn, 1) := by decide +kernel
theorem dX8_later_23 : decode cX8_later 23 = .ok (.aload_n 0, 1) := by decide +kernel
theorem dX8_later_24 : decode cX8_later 24 = .ok (.invokevirtual 142, 3) := by decide +kernel
theorem dX8_later_27 : decode cX8_later 27 = .ok (.iconst 0, 1) := by decide +kernel
theorem dX8_later_28 : decode cX8_later 28 = .ok (.istore_n 3, 1) := by decide +kernel
theorem dX8_later_29 : decode cX8_later 29 = .ok (.iload_n 3, 1) := by decide +kernel
theorem dX8_later_30 : decode cX8_later 30 = .ok (.iload_n 2, 1) := by decide +kernel
theorem dX8_later_31 : decode cX8_later 31 = .ok (.if_icmp .ge 13, 3) := by decide +kernel
theorem dX8_later_34 : decode cX8_later 34 = .ok (.aload_n 0, 1) := by decide +kernel
theorem dX8_later_35 : decode cX8_later 35 = .ok (.invokevirtual 135, 3) := by decide +kernel
theorem dX8_later_38 : decode cX8_later 38 = .ok (.iinc 3 1, 3) := by decide +kernel
theorem dX8_later_41 : decode cX8_later 41 = .ok (.goto (-12), 3) := by decide +kernel
theorem dX8_later_44 : decode cX8_later 44 = .ok (.aload_n 0, 1) := by decide +kernel
theorem dX8_later_45 : decode cX8_later 45 = .ok (.iload_n 1, 1) := by decide +kernel
theorem dX8_later_46 : decode cX8_later 46 = .ok (.invokevirtual 117, 3) := by decide +kernel
theorem dX8_later_49 : decode cX8_later 49 = .ok (.istore_n 3, 1) := by decide +kernel
theorem dX8_later_50 : decode cX8_later 50 = .ok (.aload_n 0, 1) := by decide +kernel
theorem dX8_later_51 : decode cX8_later 51 = .ok (.invokevirtual 145, 3) := by decide +kernel
theorem dX8_later_54 : decode cX8_later 54 = .ok (.iload_n 3, 1) := by decide +kernel
theorem dX8_later_55 : decode cX8_later 55 = .ok (.ireturn, 1) := by decide +kernel
set_option maxRecDepth 20000 in
theorem ggX8_dark_X8_keep : GoodIn wsX8_dark wsX8_keep := goodIn_r _ [6, 7, 8, 48, 49, 50, 51, 52, 53, 54, 55, 56, 57, 58, 59, 60, 61, 62, 63, 64, 65, 66, 67, 68] (by decide +kernel) (by decide +kernel)
set_option maxRecDepth 20000 in
theorem gX8_dark_X8_keep : GoodIn wsX8_dark (wsV RX8 142 RX8 yX8_keep wsX8_keep) := goodIn_app (goodIn_of _ (by decide +kernel)) ggX8_dark_X8_keep
set_option maxRecDepth 20000 in
theorem ggX8_dark_X8_lit : GoodIn wsX8_dark wsX8_lit := goodIn_r _ [12, 1, 13, 14, 15, 5, 16, 17, 18, 19, 20, 8, 21, 22, 23, 24, 48, 49, 50, 51, 52, 53, 54, 55, 56, 57, 58, 59, 60, 61, 62, 63, 64, 65, 66, 67, 68] (by decide +kernel) (by decide +kernel)
set_option maxRecDepth 20000 in
theorem gX8_dark_X8_lit : GoodIn wsX8_dark (wsV RX8 138 RX8 yX8_lit wsX8_lit) := goodIn_app (goodIn_of _ (by decide +kernel)) ggX8_dark_X8_lit
set_option maxRecDepth 20000 in
theorem ggX8_dark_X8_goDusk : GoodIn wsX8_dark wsX8_goDusk := goodIn_r _ [28, 1, 29, 30, 8, 13, 14, 15, 5, 16, 17, 18, 19, 20, 21, 22, 23, 24, 31, 32, 33, 34, 35, 36, 37, 38, 39, 40, 41, 42, 43, 48, 49, 50, 51, 52, 53, 54, 55, 56, 57, 58, 59, 60, 61, 62, 63, 64, 65, 66, 67, 68] (by decide +kernel) (by decide +kernel)
set_option maxRecDepth 20000 in
theorem gX8_dark_X8_goDusk : GoodIn wsX8_dark (wsV RX8 135 RX8 yX8_goDusk wsX8_goDusk) := goodIn_app (goodIn_of _ (by decide +kernel)) ggX8_dark_X8_goDusk
set_option maxRecDepth 20000 in
theorem ggX8_dark_X8_restore : GoodIn wsX8_dark wsX8_restore := goodIn_r _ [47, 8, 7, 48, 49, 50, 51, 52, 53, 54, 55, 56, 57, 58, 59, 60, 61, 62, 63, 64, 65, 66, 67, 68] (by decide +kernel) (by decide +kernel)
set_option maxRecDepth 20000 in
theorem gX8_dark_X8_restore : GoodIn wsX8_dark (wsV RX8 145 RX8 yX8_restore wsX8_restore) := goodIn_app (goodIn_of _ (by decide +kernel)) ggX8_dark_X8_restore
theorem dX8_dark_0 : decode cX8_dark 0 = .ok (.aload_n 0, 1) := by decide +kernel
theorem dX8_dark_1 : decode cX8_dark 1 = .ok (.getfield 60, 3) := by decide +kernel
theorem dX8_dark_4 : decode cX8_dark 4 = .ok (.ifCond .ne 6, 3) := by decide +kernel
theorem dX8_dark_7 : decode cX8_dark 7 = .ok (.bipush (-3), 2) := by decide +kernel
theorem dX8_dark_9 : decode cX8_dark 9 = .ok (.ireturn, 1) := by decide +kernel
theorem dX8_dark_10 : decode cX8_dark 10 = .ok (.aload_n 0, 1) := by decide +kernel
theorem dX8_dark_11 : decode cX8_dark 11 = .ok (.invokevirtual 142, 3) := by decide +kernel
theorem dX8_dark_14 : decode cX8_dark 14 = .ok (.iconst 0, 1) := by decide +kernel
theorem dX8_dark_15 : decode cX8_dark 15 = .ok (.istore_n 1, 1) := by decide +kernel
theorem dX8_dark_16 : decode cX8_dark 16 = .ok (.iload_n 1, 1) := by decide +kernel
theorem dX8_dark_17 : decode cX8_dark 17 = .ok (.bipush 60, 2) := by decide +kernel
theorem dX8_dark_19 : decode cX8_dark 19 = .ok (.if_icmp .gt 20, 3) := by decide +kernel
theorem dX8_dark_22 : decode cX8_dark 22 = .ok (.aload_n 0, 1) := by decide +kernel
theorem dX8_dark_23 : decode cX8_dark 23 = .ok (.invokevirtual 138, 3) := by decide +kernel
theorem dX8_dark_26 : decode cX8_dark 26 = .ok (.ifCond .eq 13, 3) := by decide +kernel
theorem dX8_dark_29 : decode cX8_dark 29 = .ok (.aload_n 0, 1) := by decide +kernel
theorem dX8_dark_30 : decode cX8_dark 30 = .ok (.invokevirtual 135, 3) := by decide +kernel
theorem dX8_dark_33 : decode cX8_dark 33 = .ok (.iinc 1 1, 3) := by decide +kernel
theorem dX8_dark_36 : decode cX8_dark 36 = .ok (.goto (-20), 3) := by decide +kernel
theorem dX8_dark_39 : decode cX8_dark 39 = .ok (.aload_n 0, 1) := by decide +kernel
theorem dX8_dark_40 : decode cX8_dark 40 = .ok (.invokevirtual 145, 3) := by decide +kernel
theorem dX8_dark_43 : decode cX8_dark 43 = .ok (.iload_n 1, 1) := by decide +kernel
theorem dX8_dark_44 : decode cX8_dark 44 = .ok (.bipush 60, 2) := by decide +kernel
theorem dX8_dark_46 : decode cX8_dark 46 = .ok (.if_icmp .le 8, 3) := by decide +kernel
theorem dX8_dark_49 : decode cX8_dark 49 = .ok (.bipush (-9), 2) := by decide +kernel
theorem dX8_dark_51 : decode cX8_dark 51 = .ok (.goto 4, 3) := by decide +kernel
theorem dX8_dark_54 : decode cX8_dark 54 = .ok (.iload_n 1, 1) := by decide +kernel
theorem dX8_dark_55 : decode cX8_dark 55 = .ok (.ireturn, 1) := by decide +kernel
set_option maxRecDepth 20000 in
theorem ggX8_ring_X8_isPerson : GoodIn wsX8_ring wsX8_isPerson := goodIn_r _ [6, 1, 20, 21, 22, 23, 24, 25, 26, 27, 28, 29, 30, 31, 32, 33, 34, 35, 36, 37, 38, 39, 40] (by decide +kernel) (by decide +kernel)
set_option maxRecDepth 20000 in
theorem gX8_ring_X8_isPerson : GoodIn wsX8_ring (wsV RX8 63 RX8 yX8_isPerson wsX8_isPerson) := goodIn_app (goodIn_of _ (by decide +kernel)) ggX8_ring_X8_isPerson
set_option maxRecDepth 20000 in
theorem ggX8_ring_X8_lighterOf : GoodIn wsX8_ring wsX8_lighterOf := goodIn_r _ [10, 1, 11, 12, 13, 5, 14, 15, 16, 17, 18, 19, 20, 21, 22, 23, 24, 25, 26, 27, 28, 29, 30, 31, 32, 33, 34, 35, 36, 37, 38, 39, 40] (by decide +kernel) (by decide +kernel)
set_option maxRecDepth 20000 in
theorem gX8_ring_X8_lighterOf : GoodIn wsX8_ring (wsV RX8 117 RX8 yX8_lighterOf wsX8_lighterOf) := goodIn_app (goodIn_of _ (by decide +kernel)) ggX8_ring_X8_lighterOf
theorem dX8_ring_0 : decode cX8_ring 0 = .ok (.aload_n 0, 1) := by decide +kernel
theorem dX8_ring_1 : decode cX8_ring 1 = .ok (.iload_n 1, 1) := by decide +kernel
theorem dX8_ring_2 : decode cX8_ring 2 = .ok (.invokevirtual 63, 3) := by decide +kernel
theorem dX8_ring_5 : decode cX8_ring 5 = .ok (.ifCond .ne 5, 3) := by decide +kernel
theorem dX8_ring_8 : decode cX8_ring 8 = .ok (.iconst (-1), 1) := by decide +kernel
theorem dX8_ring_9 : decode cX8_ring 9 = .ok (.ireturn, 1) := by decide +kernel
theorem dX8_ring_10 : decode cX8_ring 10 = .ok (.iload_n 1, 1) := by decide +kernel
theorem dX8_ring_11 : decode cX8_ring 11 = .ok (.istore_n 2, 1) := by decide +kernel
theorem dX8_ring_12 : decode cX8_ring 12 = .ok (.iconst 0, 1) := by decide +kernel
theorem dX8_ring_13 : decode cX8_ring 13 = .ok (.istore_n 3, 1) := by decide +kernel
theorem dX8_ring_14 : decode cX8_ring 14 = .ok (.iload_n 3, 1) := by decide +kernel
theorem dX8_ring_15 : decode cX8_ring 15 = .ok (.aload_n 0, 1) := by decide +kernel
theorem dX8_ring_16 : decode cX8_ring 16 = .ok (.getfield 60, 3) := by decide +kernel
theorem dX8_ring_19 : decode cX8_ring 19 = .ok (.if_icmp .ge 24, 3) := by decide +kernel
theorem dX8_ring_22 : decode cX8_ring 22 = .ok (.aload_n 0, 1) := by decide +kernel
theorem dX8_ring_23 : decode cX8_ring 23 = .ok (.iload_n 2, 1) := by decide +kernel
theorem dX8_ring_24 : decode cX8_ring 24 = .ok (.invokevirtual 117, 3) := by decide +kernel
theorem dX8_ring_27 : decode cX8_ring 27 = .ok (.istore_n 2, 1) := by decide +kernel
theorem dX8_ring_28 : decode cX8_ring 28 = .ok (.iload_n 2, 1) := by decide +kernel
theorem dX8_ring_29 : decode cX8_ring 29 = .ok (.bipush (-9), 2) := by decide +kernel
theorem dX8_ring_31 : decode cX8_ring 31 = .ok (.if_icmp .ne 6, 3) := by decide +kernel
theorem dX8_ring_34 : decode cX8_ring 34 = .ok (.bipush (-9), 2) := by decide +kernel
theorem dX8_ring_36 : decode cX8_ring 36 = .ok (.ireturn, 1) := by decide +kernel
theorem dX8_ring_37 : decode cX8_ring 37 = .ok (.iinc 3 1, 3) := by decide +kernel
theorem dX8_ring_40 : decode cX8_ring 40 = .ok (.goto (-26), 3) := by decide +kernel
theorem dX8_ring_43 : decode cX8_ring 43 = .ok (.iconst 0, 1) := by decide +kernel
theorem dX8_ring_44 : decode cX8_ring 44 = .ok (.istore_n 3, 1) := by decide +kernel
theorem dX8_ring_45 : decode cX8_ring 45 = .ok (.iload_n 3, 1) := by decide +kernel
theorem dX8_ring_46 : decode cX8_ring 46 = .ok (.iload_n 2, 1) := by decide +kernel
theorem dX8_ring_47 : decode cX8_ring 47 = .ok (.ishr, 1) := by decide +kernel
theorem dX8_ring_48 : decode cX8_ring 48 = .ok (.iconst 1, 1) := by decide +kernel
theorem dX8_ring_49 : decode cX8_ring 49 = .ok (.iand, 1) := by decide +kernel
theorem dX8_ring_50 : decode cX8_ring 50 = .ok (.ifCond .ne 18, 3) := by decide +kernel
theorem dX8_ring_53 : decode cX8_ring 53 = .ok (.iload_n 3, 1) := by decide +kernel
theorem dX8_ring_54 : decode cX8_ring 54 = .ok (.iconst 1, 1) := by decide +kernel
theorem dX8_ring_55 : decode cX8_ring 55 = .ok (.iload_n 2, 1) := by decide +kernel
theorem dX8_ring_56 : decode cX8_ring 56 = .ok (.ishl, 1) := by decide +kernel
theorem dX8_ring_57 : decode cX8_ring 57 = .ok (.ior, 1) := by decide +kernel
theorem dX8_ring_58 : decode cX8_ring 58 = .ok (.istore_n 3, 1) := by decide +kernel
theorem dX8_ring_59 : decode cX8_ring 59 = .ok (.aload_n 0, 1) := by decide +kernel
theorem dX8_ring_60 : decode cX8_ring 60 = .ok (.iload_n 2, 1) := by decide +kernel
theorem dX8_ring_61 : decode cX8_ring 61 = .ok (.invokevirtual 117, 3) := by decide +kernel
theorem dX8_ring_64 : decode cX8_ring 64 = .ok (.istore_n 2, 1) := by decide +kernel
theorem dX8_ring_65 : decode cX8_ring 65 = .ok (.goto (-20), 3) := by decide +kernel
theorem dX8_ring_68 : decode cX8_ring 68 = .ok (.iload_n 3, 1) := by decide +kernel
theorem dX8_ring_69 : decode cX8_ring 69 = .ok (.ireturn, 1) := by decide +kernel
set_option maxRecDepth 20000 in
theorem ggX8_walk_X8_isPerson : GoodIn wsX8_walk wsX8_isPerson := goodIn_r _ [7, 8, 49, 50, 51, 52, 53, 54, 55, 56, 57, 58, 59, 60, 61, 62, 63, 64, 65, 66, 67, 68, 69] (by decide +kernel) (by decide +kernel)
set_option maxRecDepth 20000 in
theorem gX8_walk_X8_isPerson : GoodIn wsX8_walk (wsV RX8 63 RX8 yX8_isPerson wsX8_isPerson) := goodIn_app (goodIn_of _ (by decide +kernel)) ggX8_walk_X8_isPerson
set_option maxRecDepth 20000 in
theorem ggX8_walk_X8_isSheet : GoodIn wsX8_walk wsX8_isSheet := goodIn_r _ [11, 12, 13, 6, 14] (by decide +kernel) (by decide +kernel)
set_option maxRecDepth 20000 in
theorem gX8_walk_X8_isSheet : GoodIn wsX8_walk (va_wsS RX8 70 yX8_isSheet wsX8_isSheet) := goodIn_app (goodIn_of _ (by decide +kernel)) ggX8_walk_X8_isSheet
set_option maxRecDepth 20000 in
theorem ggX8_walk_X8_isSort : GoodIn wsX8_walk wsX8_isSort := goodIn_r _ [17, 12, 13, 6, 14] (by decide +kernel) (by decide +kernel)
set_option maxRecDepth 20000 in
theorem gX8_walk_X8_isSort : GoodIn wsX8_walk (va_wsS RX8 73 yX8_isSort wsX8_isSort) := goodIn_app (goodIn_of _ (by decide +kernel)) ggX8_walk_X8_isSort
set_option maxRecDepth 20000 in
theorem ggX8_walk_X8_within : GoodIn wsX8_walk wsX8_within := goodIn_r _ [14] (by decide +kernel) (by decide +kernel)
set_option maxRecDepth 20000 in
theorem gX8_walk_X8_within : GoodIn wsX8_walk (va_wsS RX8 56 yX8_within wsX8_within) := goodIn_app (goodIn_of _ (by decide +kernel)) ggX8_walk_X8_within
set_option maxRecDepth 20000 in
theorem ggX8_walk_X8_against : GoodIn wsX8_walk wsX8_against := goodIn_r _ [21, 22, 23, 49, 50, 51, 52, 53, 54, 55, 56, 57, 58, 59, 60, 61, 62, 63, 64, 65, 66, 67, 68, 69] (by decide +kernel) (by decide +kernel)
set_option maxRecDepth 20000 in
theorem gX8_walk_X8_against : GoodIn wsX8_walk (wsV RX8 76 RX8 yX8_against wsX8_against) := goodIn_app (goodIn_of _ (by decide +kernel)) ggX8_walk_X8_against
set_option maxRecDepth 20000 in
theorem ggX8_walk_X8_fails : GoodIn wsX8_walk wsX8_fails := goodIn_r _ [27, 1, 49, 50, 51, 52, 53, 54, 55, 56, 57, 58, 59, 60, 61, 62, 63, 64, 65, 66, 67, 68, 69] (by decide +kernel) (by decide +kernel)
set_option maxRecDepth 20000 in
theorem gX8_walk_X8_fails : GoodIn wsX8_walk (wsV RX8 80 RX8 yX8_fails wsX8_fails) := goodIn_app (goodIn_of _ (by decide +kernel)) ggX8_walk_X8_fails
set_option maxRecDepth 20000 in
theorem ggX8_walk_X8_walkOf : GoodIn wsX8_walk wsX8_walkOf := goodIn_r _ [31, 2, 32, 33, 34, 6, 35, 8, 36, 37, 38, 39, 40, 41, 42, 43, 44, 45, 46, 47, 48, 49, 50, 51, 52, 53, 54, 55, 56, 57, 58, 59, 60, 61, 62, 63, 64, 65, 66, 67, 68, 69] (by decide +kernel) (by decide +kernel)
set_option maxRecDepth 20000 in
theorem gX8_walk_X8_walkOf : GoodIn wsX8_walk (wsV RX8 148 RX8 yX8_walkOf wsX8_walkOf) := goodIn_app (goodIn_of _ (by decide +kernel)) ggX8_walk_X8_walkOf
theorem dX8_walk_0 : decode cX8_walk 0 = .ok (.aload_n 0, 1) := by decide +kernel
theorem dX8_walk_1 : decode cX8_walk 1 = .ok (.iconst 0, 1) := by decide +kernel
theorem dX8_walk_2 : decode cX8_walk 2 = .ok (.putfield 50, 3) := by decide +kernel
theorem dX8_walk_5 : decode cX8_walk 5 = .ok (.aload_n 0, 1) := by decide +kernel
theorem dX8_walk_6 : decode cX8_walk 6 = .ok (.iload_n 1, 1) := by decide +kernel
theorem dX8_walk_7 : decode cX8_walk 7 = .ok (.invokevirtual 63, 3) := by decide +kernel
theorem dX8_walk_10 : decode cX8_walk 10 = .ok (.ifCond .eq 10, 3) := by decide +kernel
theorem dX8_walk_13 : decode cX8_walk 13 = .ok (.iload_n 2, 1) := by decide +kernel
theorem dX8_walk_14 : decode cX8_walk 14 = .ok (.invokestatic 70, 3) := by decide +kernel
theorem dX8_walk_17 : decode cX8_walk 17 = .ok (.ifCond .ne 5, 3) := by decide +kernel
theorem dX8_walk_20 : decode cX8_walk 20 = .ok (.iconst (-1), 1) := by decide +kernel
theorem dX8_walk_21 : decode cX8_walk 21 = .ok (.ireturn, 1) := by decide +kernel
theorem dX8_walk_22 : decode cX8_walk 22 = .ok (.iload_n 3, 1) := by decide +kernel
theorem dX8_walk_23 : decode cX8_walk 23 = .ok (.invokestatic 73, 3) := by decide +kernel
theorem dX8_walk_26 : decode cX8_walk 26 = .ok (.ifCond .eq 24, 3) := by decide +kernel
theorem dX8_walk_29 : decode cX8_walk 29 = .ok (.iload 5, 2) := by decide +kernel
theorem dX8_walk_31 : decode cX8_walk 31 = .ok (.iconst 0, 1) := by decide +kernel
theorem dX8_walk_32 : decode cX8_walk 32 = .ok (.bipush 20, 2) := by decide +kernel
theorem dX8_walk_34 : decode cX8_walk 34 = .ok (.invokestatic 56, 3) := by decide +kernel
theorem dX8_walk_37 : decode cX8_walk 37 = .ok (.ifCond .eq 13, 3) := by decide +kernel
theorem dX8_walk_40 : decode cX8_walk 40 = .ok (.iload 6, 2) := by decide +kernel
theorem dX8_walk_42 : decode cX8_walk 42 = .ok (.iconst 0, 1) := by decide +kernel
theorem dX8_walk_43 : decode cX8_walk 43 = .ok (.iconst 2, 1) := by decide +kernel
theorem dX8_walk_44 : decode cX8_walk 44 = .ok (.invokestatic 56, 3) := by decide +kernel
theorem dX8_walk_47 : decode cX8_walk 47 = .ok (.ifCond .ne 6, 3) := by decide +kernel
theorem dX8_walk_50 : decode cX8_walk 50 = .ok (.bipush (-2), 2) := by decide +kernel
theorem dX8_walk_52 : decode cX8_walk 52 = .ok (.ireturn, 1) := by decide +kernel
theorem dX8_walk_53 : decode cX8_walk 53 = .ok (.aload_n 0, 1) := by decide +kernel
theorem dX8_walk_54 : decode cX8_walk 54 = .ok (.iload_n 2, 1) := by decide +kernel
theorem dX8_walk_55 : decode cX8_walk 55 = .ok (.iload_n 3, 1) := by decide +kernel
theorem dX8_walk_56 : decode cX8_walk 56 = .ok (.iload 4, 2) := by decide +kernel
theorem dX8_walk_58 : decode cX8_walk 58 = .ok (.iload 5, 2) := by decide +kernel
theorem dX8_walk_60 : decode cX8_walk 60 = .ok (.invokevirtual 76, 3) := by decide +kernel
theorem dX8_walk_63 : decode cX8_walk 63 = .ok (.istore 7, 2) := by decide +kernel
theorem dX8_walk_65 : decode cX8_walk 65 = .ok (.iload 7, 2) := by decide +kernel
theorem dX8_walk_67 : decode cX8_walk 67 = .ok (.ifCond .eq 10, 3) := by decide +kernel
theorem dX8_walk_70 : decode cX8_walk 70 = .ok (.aload_n 0, 1) := by decide +kernel
theorem dX8_walk_71 : decode cX8_walk 71 = .ok (.iload 7, 2) := by decide +kernel
theorem dX8_walk_73 : decode cX8_walk 73 = .ok (.invokevirtual 80, 3) := by decide +kernel
theorem dX8_walk_76 : decode cX8_walk 76 = .ok (.ireturn, 1) := by decide +kernel
theorem dX8_walk_77 : decode cX8_walk 77 = .ok (.bipush 60, 2) := by decide +kernel
theorem dX8_walk_79 : decode cX8_walk 79 = .ok (.iload_n 2, 1) := by decide +kernel
theorem dX8_walk_80 : decode cX8_walk 80 = .ok (.imul, 1) := by decide +kernel
theorem dX8_walk_81 : decode cX8_walk 81 = .ok (.iload 4, 2) := by decide +kernel
theorem dX8_walk_83 : decode cX8_walk 83 = .ok (.iadd, 1) := by decide +kernel
theorem dX8_walk_84 : decode cX8_walk 84 = .ok (.istore 8, 2) := by decide +kernel
theorem dX8_walk_86 : decode cX8_walk 86 = .ok (.iconst 0, 1) := by decide +kernel
theorem dX8_walk_87 : decode cX8_walk 87 = .ok (.istore 9, 2) := by decide +kernel
theorem dX8_walk_89 : decode cX8_walk 89 = .ok (.iload 9, 2) := by decide +kernel
theorem dX8_walk_91 : decode cX8_walk 91 = .ok (.iload 5, 2) := by decide +kernel
theorem dX8_walk_93 : decode cX8_walk 93 = .ok (.if_icmp .ge 28, 3) := by decide +kernel
theorem dX8_walk_96 : decode cX8_walk 96 = .ok (.aload_n 0, 1) := by decide +kernel
theorem dX8_walk_97 : decode cX8_walk 97 = .ok (.aload_n 0, 1) := by decide +kernel
theorem dX8_walk_98 : decode cX8_walk 98 = .ok (.getfield 16, 3) := by decide +kernel
theorem dX8_walk_101 : decode cX8_walk 101 = .ok (.iload 8, 2) := by decide +kernel
theorem dX8_walk_103 : decode cX8_walk 103 = .ok (.iload 9, 2) := by decide +kernel
theorem dX8_walk_105 : decode cX8_walk 105 = .ok (.iadd, 1) := by decide +kernel
theorem dX8_walk_106 : decode cX8_walk 106 = .ok (.iaload, 1) := by decide +kernel
theorem dX8_walk_107 : decode cX8_walk 107 = .ok (.invokevirtual 63, 3) := by decide +kernel
theorem dX8_walk_110 : decode cX8_walk 110 = .ok (.ifCond .ne 5, 3) := by decide +kernel
theorem dX8_walk_113 : decode cX8_walk 113 = .ok (.iconst (-1), 1) := by decide +kernel
theorem dX8_walk_114 : decode cX8_walk 114 = .ok (.ireturn, 1) := by decide +kernel
theorem dX8_walk_115 : decode cX8_walk 115 = .ok (.iinc 9 1, 3) := by decide +kernel
theorem dX8_walk_118 : decode cX8_walk 118 = .ok (.goto (-29), 3) := by decide +kernel
theorem dX8_walk_121 : decode cX8_walk 121 = .ok (.aload_n 0, 1) := by decide +kernel
theorem dX8_walk_122 : decode cX8_walk 122 = .ok (.iload_n 1, 1) := by decide +kernel
theorem dX8_walk_123 : decode cX8_walk 123 = .ok (.iload 8, 2) := by decide +kernel
theorem dX8_walk_125 : decode cX8_walk 125 = .ok (.iload 5, 2) := by decide +kernel
theorem dX8_walk_127 : decode cX8_walk 127 = .ok (.iload 6, 2) := by decide +kernel
theorem dX8_walk_129 : decode cX8_walk 129 = .ok (.invokevirtual 148, 3) := by decide +kernel
theorem dX8_walk_132 : decode cX8_walk 132 = .ok (.ireturn, 1) := by decide +kernel
set_option maxRecDepth 20000 in
theorem ggX8_walkOf_X8_roundOf : GoodIn wsX8_walkOf wsX8_roundOf := goodIn_r _ [6, 7, 8, 9, 10, 5, 11, 12, 13, 14, 15, 16, 17, 18, 19, 20, 21, 22, 23, 24, 25, 26, 27, 28, 29, 30, 31, 32, 33, 34, 35, 36, 37, 38, 39, 40, 41] (by decide +kernel) (by decide +kernel)
set_option maxRecDepth 20000 in
theorem gX8_walkOf_X8_roundOf : GoodIn wsX8_walkOf (wsV RX8 120 RX8 yX8_roundOf wsX8_roundOf) := goodIn_app (goodIn_of _ (by decide +kernel)) ggX8_walkOf_X8_roundOf
theorem dX8_walkOf_0 : decode cX8_walkOf 0 = .ok (.aload_n 0, 1) := by decide +kernel
theorem dX8_walkOf_1 : decode cX8_walkOf 1 = .ok (.iload_n 1, 1) := by decide +kernel
theorem dX8_walkOf_2 : decode cX8_walkOf 2 = .ok (.invokevirtual 120, 3) := by decide +kernel
theorem dX8_walkOf_5 : decode cX8_walkOf 5 = .ok (.istore 5, 2) := by decide +kernel
theorem dX8_walkOf_7 : decode cX8_walkOf 7 = .ok (.iload 5, 2) := by decide +kernel
theorem dX8_walkOf_9 : decode cX8_walkOf 9 = .ok (.ifCond .ne 7, 3) := by decide +kernel
theorem dX8_walkOf_12 : decode cX8_walkOf 12 = .ok (.iconst 0, 1) := by decide +kernel
theorem dX8_walkOf_13 : decode cX8_walkOf 13 = .ok (.goto 5, 3) := by decide +kernel
