set_option maxRecDepth 20000 in
theorem ggX0_init_X3_init : GoodIn wsX0_init wsX3_init := goodIn_r _ [3, 4, 5, 6, 7, 8, 9] (by decide +kernel) (by decide +kernel)
set_option maxRecDepth 20000 in
theorem gX0_init_X3_init_n1 : GoodIn wsX0_init (wsX3_init) := ggX0_init_X3_init
theorem dX0_init_0 : decode cX0_init 0 = .ok (.aload_n 0, 1) := by decide +kernel
theorem dX0_init_1 : decode cX0_init 1 = .ok (.invokespecial 1, 3) := by decide +kernel
theorem dX0_init_4 : decode cX0_init 4 = .ok (.return_, 1) := by decide +kernel
theorem dX0_weigh_0 : decode cX0_weigh 0 = .ok (.iconst 2, 1) := by decide +kernel
theorem dX0_weigh_1 : decode cX0_weigh 1 = .ok (.iload_n 1, 1) := by decide +kernel
theorem dX0_weigh_2 : decode cX0_weigh 2 = .ok (.imul, 1) := by decide +kernel
theorem dX0_weigh_3 : decode cX0_weigh 3 = .ok (.ireturn, 1) := by decide +kernel
set_option maxRecDepth 20000 in
theorem ggX0_telling_X6_leave : GoodIn wsX0_telling wsX6_leave := goodIn_r _ [5, 6, 25] (by decide +kernel) (by decide +kernel)
set_option maxRecDepth 20000 in
theorem gX0_telling_X6_leave : GoodIn wsX0_telling (wsV RX0 7 RX6 yX6_leave wsX6_leave) := goodIn_app (goodIn_of _ (by decide +kernel)) ggX0_telling_X6_leave
set_option maxRecDepth 20000 in
theorem ggX0_telling_X3_telling : GoodIn wsX0_telling wsX3_telling := goodIn_r _ [12, 13, 2, 3, 4, 5, 6, 14, 15, 16, 17, 18, 19, 20, 21, 25] (by decide +kernel) (by decide +kernel)
set_option maxRecDepth 20000 in
theorem gX0_telling_X3_telling_s13 : GoodIn wsX0_telling (va_wsSU RX0 13 yX3_telling wsX3_telling) := goodIn_app (goodIn_of _ (by decide +kernel)) ggX0_telling_X3_telling
set_option maxRecDepth 20000 in
theorem ggX0_telling_X1_plainTelling : GoodIn wsX0_telling wsX1_plainTelling := goodIn_r _ [19, 20, 2, 3, 4, 5, 6, 25] (by decide +kernel) (by decide +kernel)
set_option maxRecDepth 20000 in
theorem gX0_telling_X1_plainTelling_u17X0 : GoodIn wsX0_telling (va_wsU RX0 17 RX0 "DebtLamps$Person" ⟨"DebtLamps$Bankrupt", "plainTelling", "(ILDebtLamps$Trail;)I"⟩ yX1_plainTelling wsX1_plainTelling) := goodIn_app (goodIn_of _ (by decide +kernel)) ggX0_telling_X1_plainTelling
theorem dX0_telling_0 : decode cX0_telling 0 = .ok (.aload_n 2, 1) := by decide +kernel
theorem dX0_telling_1 : decode cX0_telling 1 = .ok (.iconst 3, 1) := by decide +kernel
theorem dX0_telling_2 : decode cX0_telling 2 = .ok (.invokevirtual 7, 3) := by decide +kernel
theorem dX0_telling_5 : decode cX0_telling 5 = .ok (.aload_n 0, 1) := by decide +kernel
theorem dX0_telling_6 : decode cX0_telling 6 = .ok (.iload_n 1, 1) := by decide +kernel
theorem dX0_telling_7 : decode cX0_telling 7 = .ok (.aload_n 2, 1) := by decide +kernel
theorem dX0_telling_8 : decode cX0_telling 8 = .ok (.invokespecial 13, 3) := by decide +kernel
theorem dX0_telling_11 : decode cX0_telling 11 = .ok (.istore_n 3, 1) := by decide +kernel
theorem dX0_telling_12 : decode cX0_telling 12 = .ok (.iload_n 3, 1) := by decide +kernel
theorem dX0_telling_13 : decode cX0_telling 13 = .ok (.aload_n 0, 1) := by decide +kernel
theorem dX0_telling_14 : decode cX0_telling 14 = .ok (.iload_n 1, 1) := by decide +kernel
theorem dX0_telling_15 : decode cX0_telling 15 = .ok (.aload_n 2, 1) := by decide +kernel
theorem dX0_telling_16 : decode cX0_telling 16 = .ok (.invokevirtual 17, 3) := by decide +kernel
theorem dX0_telling_19 : decode cX0_telling 19 = .ok (.iadd, 1) := by decide +kernel
theorem dX0_telling_20 : decode cX0_telling 20 = .ok (.ireturn, 1) := by decide +kernel
set_option maxRecDepth 20000 in
theorem ggX0_hailing_X6_leave : GoodIn wsX0_hailing wsX6_leave := goodIn_r _ [5, 6, 7] (by decide +kernel) (by decide +kernel)
set_option maxRecDepth 20000 in
theorem gX0_hailing_X6_leave : GoodIn wsX0_hailing (wsV RX0 7 RX6 yX6_leave wsX6_leave) := goodIn_app (goodIn_of _ (by decide +kernel)) ggX0_hailing_X6_leave
theorem dX0_hailing_0 : decode cX0_hailing 0 = .ok (.aload_n 2, 1) := by decide +kernel
theorem dX0_hailing_1 : decode cX0_hailing 1 = .ok (.iconst 5, 1) := by decide +kernel
theorem dX0_hailing_2 : decode cX0_hailing 2 = .ok (.invokevirtual 7, 3) := by decide +kernel
theorem dX0_hailing_5 : decode cX0_hailing 5 = .ok (.bipush 50, 2) := by decide +kernel
theorem dX0_hailing_7 : decode cX0_hailing 7 = .ok (.ireturn, 1) := by decide +kernel
theorem dX1_init_0 : decode cX1_init 0 = .ok (.aload_n 0, 1) := by decide +kernel
theorem dX1_init_1 : decode cX1_init 1 = .ok (.invokespecial 1, 3) := by decide +kernel
theorem dX1_init_4 : decode cX1_init 4 = .ok (.return_, 1) := by decide +kernel
theorem dX1_weigh_0 : decode cX1_weigh 0 = .ok (.iload_n 1, 1) := by decide +kernel
theorem dX1_weigh_1 : decode cX1_weigh 1 = .ok (.ireturn, 1) := by decide +kernel
set_option maxRecDepth 20000 in
theorem ggX1_telling_X1_plainTelling : GoodIn wsX1_telling wsX1_plainTelling := goodIn_r _ [6, 7, 8, 9, 10, 11, 12, 16] (by decide +kernel) (by decide +kernel)
set_option maxRecDepth 20000 in
theorem gX1_telling_X1_plainTelling_u7X0 : GoodIn wsX1_telling (va_wsU RX1 7 RX0 "DebtLamps$Person" ⟨"DebtLamps$Person", "plainTelling", "(ILDebtLamps$Trail;)I"⟩ yX1_plainTelling wsX1_plainTelling) := goodIn_app (goodIn_of _ (by decide +kernel)) ggX1_telling_X1_plainTelling
set_option maxRecDepth 20000 in
theorem gX1_telling_X1_plainTelling : GoodIn wsX1_telling (wsV RX1 7 RX1 yX1_plainTelling wsX1_plainTelling) := goodIn_app (goodIn_of _ (by decide +kernel)) ggX1_telling_X1_plainTelling
set_option maxRecDepth 20000 in
theorem gX1_telling_X1_plainTelling_u7X3 : GoodIn wsX1_telling (va_wsU RX1 7 RX3 "DebtLamps$Person" ⟨"DebtLamps$Person", "plainTelling", "(ILDebtLamps$Trail;)I"⟩ yX1_plainTelling wsX1_plainTelling) := goodIn_app (goodIn_of _ (by decide +kernel)) ggX1_telling_X1_plainTelling
theorem dX1_telling_0 : decode cX1_telling 0 = .ok (.aload_n 0, 1) := by decide +kernel
theorem dX1_telling_1 : decode cX1_telling 1 = .ok (.iload_n 1, 1) := by decide +kernel
theorem dX1_telling_2 : decode cX1_telling 2 = .ok (.aload_n 2, 1) := by decide +kernel
theorem dX1_telling_3 : decode cX1_telling 3 = .ok (.invokevirtual 7, 3) := by decide +kernel
theorem dX1_telling_6 : decode cX1_telling 6 = .ok (.ireturn, 1) := by decide +kernel
set_option maxRecDepth 20000 in
theorem ggX1_plainTelling_X6_leave : GoodIn wsX1_plainTelling wsX6_leave := goodIn_r _ [5, 6, 7] (by decide +kernel) (by decide +kernel)
set_option maxRecDepth 20000 in
theorem gX1_plainTelling_X6_leave : GoodIn wsX1_plainTelling (wsV RX1 13 RX6 yX6_leave wsX6_leave) := goodIn_app (goodIn_of _ (by decide +kernel)) ggX1_plainTelling_X6_leave
theorem dX1_plainTelling_0 : decode cX1_plainTelling 0 = .ok (.aload_n 2, 1) := by decide +kernel
theorem dX1_plainTelling_1 : decode cX1_plainTelling 1 = .ok (.iconst 1, 1) := by decide +kernel
theorem dX1_plainTelling_2 : decode cX1_plainTelling 2 = .ok (.invokevirtual 13, 3) := by decide +kernel
theorem dX1_plainTelling_5 : decode cX1_plainTelling 5 = .ok (.iload_n 1, 1) := by decide +kernel
theorem dX1_plainTelling_6 : decode cX1_plainTelling 6 = .ok (.ireturn, 1) := by decide +kernel
set_option maxRecDepth 20000 in
theorem ggX1_hailing_X6_leave : GoodIn wsX1_hailing wsX6_leave := goodIn_r _ [5, 6, 7] (by decide +kernel) (by decide +kernel)
set_option maxRecDepth 20000 in
theorem gX1_hailing_X6_leave : GoodIn wsX1_hailing (wsV RX1 13 RX6 yX6_leave wsX6_leave) := goodIn_app (goodIn_of _ (by decide +kernel)) ggX1_hailing_X6_leave
theorem dX1_hailing_0 : decode cX1_hailing 0 = .ok (.aload_n 2, 1) := by decide +kernel
theorem dX1_hailing_1 : decode cX1_hailing 1 = .ok (.iconst 4, 1) := by decide +kernel
theorem dX1_hailing_2 : decode cX1_hailing 2 = .ok (.invokevirtual 13, 3) := by decide +kernel
theorem dX1_hailing_5 : decode cX1_hailing 5 = .ok (.iload_n 1, 1) := by decide +kernel
theorem dX1_hailing_6 : decode cX1_hailing 6 = .ok (.ireturn, 1) := by decide +kernel
theorem dX2_init_0 : decode cX2_init 0 = .ok (.aload_n 0, 1) := by decide +kernel
theorem dX2_init_1 : decode cX2_init 1 = .ok (.invokespecial 3, 3) := by decide +kernel
theorem dX2_init_4 : decode cX2_init 4 = .ok (.aload_n 0, 1) := by decide +kernel
theorem dX2_init_5 : decode cX2_init 5 = .ok (.bipush 8, 2) := by decide +kernel
theorem dX2_init_7 : decode cX2_init 7 = .ok (.newarray .int, 2) := by decide +kernel
theorem dX2_init_9 : decode cX2_init 9 = .ok (.putfield 9, 3) := by decide +kernel
theorem dX2_init_12 : decode cX2_init 12 = .ok (.aload_n 0, 1) := by decide +kernel
theorem dX2_init_13 : decode cX2_init 13 = .ok (.bipush 8, 2) := by decide +kernel
theorem dX2_init_15 : decode cX2_init 15 = .ok (.newarray .int, 2) := by decide +kernel
theorem dX2_init_17 : decode cX2_init 17 = .ok (.putfield 15, 3) := by decide +kernel
theorem dX2_init_20 : decode cX2_init 20 = .ok (.aload_n 0, 1) := by decide +kernel
theorem dX2_init_21 : decode cX2_init 21 = .ok (.bipush 8, 2) := by decide +kernel
theorem dX2_init_23 : decode cX2_init 23 = .ok (.newarray .int, 2) := by decide +kernel
theorem dX2_init_25 : decode cX2_init 25 = .ok (.putfield 18, 3) := by decide +kernel
theorem dX2_init_28 : decode cX2_init 28 = .ok (.return_, 1) := by decide +kernel
theorem dX2_add_0 : decode cX2_add 0 = .ok (.aload_n 0, 1) := by decide +kernel
theorem dX2_add_1 : decode cX2_add 1 = .ok (.getfield 21, 3) := by decide +kernel
theorem dX2_add_4 : decode cX2_add 4 = .ok (.bipush 8, 2) := by decide +kernel
theorem dX2_add_6 : decode cX2_add 6 = .ok (.if_icmp .lt 6, 3) := by decide +kernel
theorem dX2_add_9 : decode cX2_add 9 = .ok (.bipush (-4), 2) := by decide +kernel
theorem dX2_add_11 : decode cX2_add 11 = .ok (.ireturn, 1) := by decide +kernel
theorem dX2_add_12 : decode cX2_add 12 = .ok (.aload_n 0, 1) := by decide +kernel
theorem dX2_add_13 : decode cX2_add 13 = .ok (.getfield 9, 3) := by decide +kernel
theorem dX2_add_16 : decode cX2_add 16 = .ok (.aload_n 0, 1) := by decide +kernel
theorem dX2_add_17 : decode cX2_add 17 = .ok (.getfield 21, 3) := by decide +kernel
theorem dX2_add_20 : decode cX2_add 20 = .ok (.iload_n 1, 1) := by decide +kernel
theorem dX2_add_21 : decode cX2_add 21 = .ok (.iastore, 1) := by decide +kernel
theorem dX2_add_22 : decode cX2_add 22 = .ok (.aload_n 0, 1) := by decide +kernel
theorem dX2_add_23 : decode cX2_add 23 = .ok (.getfield 15, 3) := by decide +kernel
theorem dX2_add_26 : decode cX2_add 26 = .ok (.aload_n 0, 1) := by decide +kernel
theorem dX2_add_27 : decode cX2_add 27 = .ok (.getfield 21, 3) := by decide +kernel
theorem dX2_add_30 : decode cX2_add 30 = .ok (.iload_n 2, 1) := by decide +kernel
theorem dX2_add_31 : decode cX2_add 31 = .ok (.iastore, 1) := by decide +kernel
theorem dX2_add_32 : decode cX2_add 32 = .ok (.aload_n 0, 1) := by decide +kernel
theorem dX2_add_33 : decode cX2_add 33 = .ok (.getfield 18, 3) := by decide +kernel
theorem dX2_add_36 : decode cX2_add 36 = .ok (.aload_n 0, 1) := by decide +kernel
theorem dX2_add_37 : decode cX2_add 37 = .ok (.getfield 21, 3) := by decide +kernel
theorem dX2_add_40 : decode cX2_add 40 = .ok (.iload_n 3, 1) := by decide +kernel
theorem dX2_add_41 : decode cX2_add 41 = .ok (.iastore, 1) := by decide +kernel
theorem dX2_add_42 : decode cX2_add 42 = .ok (.aload_n 0, 1) := by decide +kernel
theorem dX2_add_43 : decode cX2_add 43 = .ok (.dup, 1) := by decide +kernel
theorem dX2_add_44 : decode cX2_add 44 = .ok (.getfield 21, 3) := by decide +kernel
theorem dX2_add_47 : decode cX2_add 47 = .ok (.iconst 1, 1) := by decide +kernel
theorem dX2_add_48 : decode cX2_add 48 = .ok (.iadd, 1) := by decide +kernel
theorem dX2_add_49 : decode cX2_add 49 = .ok (.putfield 21, 3) := by decide +kernel
theorem dX2_add_52 : decode cX2_add 52 = .ok (.aload_n 0, 1) := by decide +kernel
theorem dX2_add_53 : decode cX2_add 53 = .ok (.getfield 21, 3) := by decide +kernel
theorem dX2_add_56 : decode cX2_add 56 = .ok (.iconst 1, 1) := by decide +kernel
theorem dX2_add_57 : decode cX2_add 57 = .ok (.isub, 1) := by decide +kernel
theorem dX2_add_58 : decode cX2_add 58 = .ok (.ireturn, 1) := by decide +kernel
theorem dX2_keepFirst_0 : decode cX2_keepFirst 0 = .ok (.iload_n 1, 1) := by decide +kernel
theorem dX2_keepFirst_1 : decode cX2_keepFirst 1 = .ok (.ifCond .lt 16, 3) := by decide +kernel
theorem dX2_keepFirst_4 : decode cX2_keepFirst 4 = .ok (.iload_n 1, 1) := by decide +kernel
theorem dX2_keepFirst_5 : decode cX2_keepFirst 5 = .ok (.aload_n 0, 1) := by decide +kernel
theorem dX2_keepFirst_6 : decode cX2_keepFirst 6 = .ok (.getfield 21, 3) := by decide +kernel
theorem dX2_keepFirst_9 : decode cX2_keepFirst 9 = .ok (.if_icmp .ge 8, 3) := by decide +kernel
theorem dX2_keepFirst_12 : decode cX2_keepFirst 12 = .ok (.aload_n 0, 1) := by decide +kernel
theorem dX2_keepFirst_13 : decode cX2_keepFirst 13 = .ok (.iload_n 1, 1) := by decide +kernel
theorem dX2_keepFirst_14 : decode cX2_keepFirst 14 = .ok (.putfield 21, 3) := by decide +kernel
theorem dX2_keepFirst_17 : decode cX2_keepFirst 17 = .ok (.return_, 1) := by decide +kernel
set_option maxRecDepth 20000 in
theorem ggX2_areSo_X2_latestDusk : GoodIn wsX2_areSo wsX2_latestDusk := goodIn_r _ [5, 6, 7, 8, 9, 10, 11, 70, 71, 72, 73] (by decide +kernel) (by decide +kernel)
set_option maxRecDepth 20000 in
theorem gX2_areSo_X2_latestDusk : GoodIn wsX2_areSo (wsV RX2 25 RX2 yX2_latestDusk wsX2_latestDusk) := goodIn_app (goodIn_of _ (by decide +kernel)) ggX2_areSo_X2_latestDusk
set_option maxRecDepth 20000 in
theorem ggX2_areSo_X5_passDusk : GoodIn wsX2_areSo wsX5_passDusk := goodIn_r _ [16, 17, 18, 19, 20, 21, 22, 9, 10, 11, 23, 24, 25, 26, 27, 28, 15, 29, 30, 31, 32, 33, 34, 35, 36, 37, 38, 39, 40, 41, 42, 43, 44, 45, 46, 47, 48, 49, 50, 51, 52, 53, 54, 55, 56, 57, 58, 59, 60, 61, 62, 74, 75, 76, 77, 78, 79, 80] (by decide +kernel) (by decide +kernel)
set_option maxRecDepth 20000 in
theorem gX2_areSo_X5_passDusk : GoodIn wsX2_areSo (wsV RX2 29 RX5 yX5_passDusk wsX5_passDusk) := goodIn_app (goodIn_of _ (by decide +kernel)) ggX2_areSo_X5_passDusk
set_option maxRecDepth 20000 in
theorem ggX2_areSo_X2_areSoBehind : GoodIn wsX2_areSo wsX2_areSoBehind := goodIn_r _ [66, 6, 7, 67, 68, 69, 31, 32, 15, 33, 17, 34, 35, 36, 37, 38, 39, 21, 40, 41, 42, 43, 44, 45, 46, 47, 48, 49, 50, 51, 52, 53, 54, 55, 70, 71, 72, 73, 74, 75, 76, 77, 78, 79, 80] (by decide +kernel) (by decide +kernel)
set_option maxRecDepth 20000 in
theorem gX2_areSo_X2_areSoBehind : GoodIn wsX2_areSo (wsV RX2 34 RX2 yX2_areSoBehind wsX2_areSoBehind) := goodIn_app (goodIn_of _ (by decide +kernel)) ggX2_areSo_X2_areSoBehind
theorem dX2_areSo_0 : decode cX2_areSo 0 = .ok (.aload_n 0, 1) := by decide +kernel
theorem dX2_areSo_1 : decode cX2_areSo 1 = .ok (.invokevirtual 25, 3) := by decide +kernel
theorem dX2_areSo_4 : decode cX2_areSo 4 = .ok (.istore_n 2, 1) := by decide +kernel
theorem dX2_areSo_5 : decode cX2_areSo 5 = .ok (.iconst 0, 1) := by decide +kernel
theorem dX2_areSo_6 : decode cX2_areSo 6 = .ok (.istore_n 3, 1) := by decide +kernel
theorem dX2_areSo_7 : decode cX2_areSo 7 = .ok (.iload_n 3, 1) := by decide +kernel
theorem dX2_areSo_8 : decode cX2_areSo 8 = .ok (.iload_n 2, 1) := by decide +kernel
theorem dX2_areSo_9 : decode cX2_areSo 9 = .ok (.if_icmp .gt 28, 3) := by decide +kernel
theorem dX2_areSo_12 : decode cX2_areSo 12 = .ok (.iload_n 3, 1) := by decide +kernel
theorem dX2_areSo_13 : decode cX2_areSo 13 = .ok (.ifCond .le 7, 3) := by decide +kernel
theorem dX2_areSo_16 : decode cX2_areSo 16 = .ok (.aload_n 1, 1) := by decide +kernel
theorem dX2_areSo_17 : decode cX2_areSo 17 = .ok (.invokevirtual 29, 3) := by decide +kernel
theorem dX2_areSo_20 : decode cX2_areSo 20 = .ok (.aload_n 0, 1) := by decide +kernel
theorem dX2_areSo_21 : decode cX2_areSo 21 = .ok (.iload_n 3, 1) := by decide +kernel
theorem dX2_areSo_22 : decode cX2_areSo 22 = .ok (.aload_n 1, 1) := by decide +kernel
theorem dX2_areSo_23 : decode cX2_areSo 23 = .ok (.invokevirtual 34, 3) := by decide +kernel
theorem dX2_areSo_26 : decode cX2_areSo 26 = .ok (.ifCond .ne 5, 3) := by decide +kernel
theorem dX2_areSo_29 : decode cX2_areSo 29 = .ok (.iconst 0, 1) := by decide +kernel
theorem dX2_areSo_30 : decode cX2_areSo 30 = .ok (.ireturn, 1) := by decide +kernel
theorem dX2_areSo_31 : decode cX2_areSo 31 = .ok (.iinc 3 1, 3) := by decide +kernel
theorem dX2_areSo_34 : decode cX2_areSo 34 = .ok (.goto (-27), 3) := by decide +kernel
theorem dX2_areSo_37 : decode cX2_areSo 37 = .ok (.iconst 1, 1) := by decide +kernel
theorem dX2_areSo_38 : decode cX2_areSo 38 = .ok (.ireturn, 1) := by decide +kernel
set_option maxRecDepth 20000 in
theorem ggX2_areSoBehind_X5_lighterAmong : GoodIn wsX2_areSoBehind wsX5_lighterAmong := goodIn_r _ [9, 10, 11, 12, 13, 8, 14, 15, 16, 17, 18, 19, 20, 21, 22, 23, 24, 25, 26, 27, 28, 29, 30, 31, 32, 33, 38, 39, 40, 41, 42, 43, 44] (by decide +kernel) (by decide +kernel)
set_option maxRecDepth 20000 in
theorem gX2_areSoBehind_X5_lighterAmong : GoodIn wsX2_areSoBehind (wsV RX2 38 RX5 yX5_lighterAmong wsX5_lighterAmong) := goodIn_app (goodIn_of _ (by decide +kernel)) ggX2_areSoBehind_X5_lighterAmong
theorem dX2_areSoBehind_0 : decode cX2_areSoBehind 0 = .ok (.iconst 0, 1) := by decide +kernel
theorem dX2_areSoBehind_1 : decode cX2_areSoBehind 1 = .ok (.istore_n 3, 1) := by decide +kernel
theorem dX2_areSoBehind_2 : decode cX2_areSoBehind 2 = .ok (.iload_n 3, 1) := by decide +kernel
theorem dX2_areSoBehind_3 : decode cX2_areSoBehind 3 = .ok (.aload_n 0, 1) := by decide +kernel
theorem dX2_areSoBehind_4 : decode cX2_areSoBehind 4 = .ok (.getfield 21, 3) := by decide +kernel
theorem dX2_areSoBehind_7 : decode cX2_areSoBehind 7 = .ok (.if_icmp .ge 41, 3) := by decide +kernel
theorem dX2_areSoBehind_10 : decode cX2_areSoBehind 10 = .ok (.aload_n 0, 1) := by decide +kernel
theorem dX2_areSoBehind_11 : decode cX2_areSoBehind 11 = .ok (.getfield 9, 3) := by decide +kernel
theorem dX2_areSoBehind_14 : decode cX2_areSoBehind 14 = .ok (.iload_n 3, 1) := by decide +kernel
theorem dX2_areSoBehind_15 : decode cX2_areSoBehind 15 = .ok (.iaload, 1) := by decide +kernel
theorem dX2_areSoBehind_16 : decode cX2_areSoBehind 16 = .ok (.iload_n 1, 1) := by decide +kernel
theorem dX2_areSoBehind_17 : decode cX2_areSoBehind 17 = .ok (.if_icmp .ne 25, 3) := by decide +kernel
theorem dX2_areSoBehind_20 : decode cX2_areSoBehind 20 = .ok (.aload_n 2, 1) := by decide +kernel
theorem dX2_areSoBehind_21 : decode cX2_areSoBehind 21 = .ok (.aload_n 0, 1) := by decide +kernel
theorem dX2_areSoBehind_22 : decode cX2_areSoBehind 22 = .ok (.getfield 15, 3) := by decide +kernel
theorem dX2_areSoBehind_25 : decode cX2_areSoBehind 25 = .ok (.iload_n 3, 1) := by decide +kernel
theorem dX2_areSoBehind_26 : decode cX2_areSoBehind 26 = .ok (.iaload, 1) := by decide +kernel
theorem dX2_areSoBehind_27 : decode cX2_areSoBehind 27 = .ok (.iconst 0, 1) := by decide +kernel
theorem dX2_areSoBehind_28 : decode cX2_areSoBehind 28 = .ok (.invokevirtual 38, 3) := by decide +kernel
theorem dX2_areSoBehind_31 : decode cX2_areSoBehind 31 = .ok (.aload_n 0, 1) := by decide +kernel
theorem dX2_areSoBehind_32 : decode cX2_areSoBehind 32 = .ok (.getfield 18, 3) := by decide +kernel
theorem dX2_areSoBehind_35 : decode cX2_areSoBehind 35 = .ok (.iload_n 3, 1) := by decide +kernel
theorem dX2_areSoBehind_36 : decode cX2_areSoBehind 36 = .ok (.iaload, 1) := by decide +kernel
theorem dX2_areSoBehind_37 : decode cX2_areSoBehind 37 = .ok (.if_icmp .eq 5, 3) := by decide +kernel
theorem dX2_areSoBehind_40 : decode cX2_areSoBehind 40 = .ok (.iconst 0, 1) := by decide +kernel
theorem dX2_areSoBehind_41 : decode cX2_areSoBehind 41 = .ok (.ireturn, 1) := by decide +kernel
theorem dX2_areSoBehind_42 : decode cX2_areSoBehind 42 = .ok (.iinc 3 1, 3) := by decide +kernel
theorem dX2_areSoBehind_45 : decode cX2_areSoBehind 45 = .ok (.goto (-43), 3) := by decide +kernel
theorem dX2_areSoBehind_48 : decode cX2_areSoBehind 48 = .ok (.iconst 1, 1) := by decide +kernel
theorem dX2_areSoBehind_49 : decode cX2_areSoBehind 49 = .ok (.ireturn, 1) := by decide +kernel
theorem dX2_latestDusk_0 : decode cX2_latestDusk 0 = .ok (.iconst (-1), 1) := by decide +kernel
theorem dX2_latestDusk_1 : decode cX2_latestDusk 1 = .ok (.istore_n 1, 1) := by decide +kernel
theorem dX2_latestDusk_2 : decode cX2_latestDusk 2 = .ok (.iconst 0, 1) := by decide +kernel
theorem dX2_latestDusk_3 : decode cX2_latestDusk 3 = .ok (.istore_n 2, 1) := by decide +kernel
theorem dX2_latestDusk_4 : decode cX2_latestDusk 4 = .ok (.iload_n 2, 1) := by decide +kernel
theorem dX2_latestDusk_5 : decode cX2_latestDusk 5 = .ok (.aload_n 0, 1) := by decide +kernel
theorem dX2_latestDusk_6 : decode cX2_latestDusk 6 = .ok (.getfield 21, 3) := by decide +kernel
theorem dX2_latestDusk_9 : decode cX2_latestDusk 9 = .ok (.if_icmp .ge 20, 3) := by decide +kernel
theorem dX2_latestDusk_12 : decode cX2_latestDusk 12 = .ok (.iload_n 1, 1) := by decide +kernel
theorem dX2_latestDusk_13 : decode cX2_latestDusk 13 = .ok (.aload_n 0, 1) := by decide +kernel
theorem dX2_latestDusk_14 : decode cX2_latestDusk 14 = .ok (.getfield 9, 3) := by decide +kernel
theorem dX2_latestDusk_17 : decode cX2_latestDusk 17 = .ok (.iload_n 2, 1) := by decide +kernel
theorem dX2_latestDusk_18 : decode cX2_latestDusk 18 = .ok (.iaload, 1) := by decide +kernel
theorem dX2_latestDusk_19 : decode cX2_latestDusk 19 = .ok (.invokestatic 42, 3) := by decide +kernel
theorem dX2_latestDusk_22 : decode cX2_latestDusk 22 = .ok (.istore_n 1, 1) := by decide +kernel
theorem dX2_latestDusk_23 : decode cX2_latestDusk 23 = .ok (.iinc 2 1, 3) := by decide +kernel
theorem dX2_latestDusk_26 : decode cX2_latestDusk 26 = .ok (.goto (-22), 3) := by decide +kernel
theorem dX2_latestDusk_29 : decode cX2_latestDusk 29 = .ok (.iload_n 1, 1) := by decide +kernel
theorem dX2_latestDusk_30 : decode cX2_latestDusk 30 = .ok (.ireturn, 1) := by decide +kernel
set_option maxRecDepth 20000 in
theorem ggX3_init_X1_init : GoodIn wsX3_init wsX1_init := goodIn_r _ [3, 4, 5, 6] (by decide +kernel) (by decide +kernel)
set_option maxRecDepth 20000 in
theorem gX3_init_X1_init_n1 : GoodIn wsX3_init (wsX1_init) := ggX3_init_X1_init
theorem dX3_init_0 : decode cX3_init 0 = .ok (.aload_n 0, 1) := by decide +kernel
theorem dX3_init_1 : decode cX3_init 1 = .ok (.invokespecial 1, 3) := by decide +kernel
theorem dX3_init_4 : decode cX3_init 4 = .ok (.return_, 1) := by decide +kernel
theorem dX3_weigh_0 : decode cX3_weigh 0 = .ok (.iload_n 1, 1) := by decide +kernel
theorem dX3_weigh_1 : decode cX3_weigh 1 = .ok (.ifCond .le 9, 3) := by decide +kernel
theorem dX3_weigh_4 : decode cX3_weigh 4 = .ok (.iload_n 1, 1) := by decide +kernel
theorem dX3_weigh_5 : decode cX3_weigh 5 = .ok (.iconst 1, 1) := by decide +kernel
theorem dX3_weigh_6 : decode cX3_weigh 6 = .ok (.iadd, 1) := by decide +kernel
theorem dX3_weigh_7 : decode cX3_weigh 7 = .ok (.goto 4, 3) := by decide +kernel
theorem dX3_weigh_10 : decode cX3_weigh 10 = .ok (.iconst 0, 1) := by decide +kernel
theorem dX3_weigh_11 : decode cX3_weigh 11 = .ok (.ireturn, 1) := by decide +kernel
set_option maxRecDepth 20000 in
theorem ggX3_telling_X6_leave : GoodIn wsX3_telling wsX6_leave := goodIn_r _ [5, 6, 15] (by decide +kernel) (by decide +kernel)
set_option maxRecDepth 20000 in
theorem gX3_telling_X6_leave : GoodIn wsX3_telling (wsV RX3 7 RX6 yX6_leave wsX6_leave) := goodIn_app (goodIn_of _ (by decide +kernel)) ggX3_telling_X6_leave
set_option maxRecDepth 20000 in
theorem ggX3_telling_X1_plainTelling : GoodIn wsX3_telling wsX1_plainTelling := goodIn_r _ [12, 13, 2, 3, 4, 5, 6, 15] (by decide +kernel) (by decide +kernel)
set_option maxRecDepth 20000 in
theorem gX3_telling_X1_plainTelling_u13X0 : GoodIn wsX3_telling (va_wsU RX3 13 RX0 "DebtLamps$Person" ⟨"DebtLamps$Rich", "plainTelling", "(ILDebtLamps$Trail;)I"⟩ yX1_plainTelling wsX1_plainTelling) := goodIn_app (goodIn_of _ (by decide +kernel)) ggX3_telling_X1_plainTelling
set_option maxRecDepth 20000 in
theorem gX3_telling_X1_plainTelling_u13X3 : GoodIn wsX3_telling (va_wsU RX3 13 RX3 "DebtLamps$Person" ⟨"DebtLamps$Rich", "plainTelling", "(ILDebtLamps$Trail;)I"⟩ yX1_plainTelling wsX1_plainTelling) := goodIn_app (goodIn_of _ (by decide +kernel)) ggX3_telling_X1_plainTelling
theorem dX3_telling_0 : decode cX3_telling 0 = .ok (.aload_n 2, 1) := by decide +kernel
theorem dX3_telling_1 : decode cX3_telling 1 = .ok (.iconst 2, 1) := by decide +kernel
theorem dX3_telling_2 : decode cX3_telling 2 = .ok (.invokevirtual 7, 3) := by decide +kernel
theorem dX3_telling_5 : decode cX3_telling 5 = .ok (.aload_n 0, 1) := by decide +kernel
theorem dX3_telling_6 : decode cX3_telling 6 = .ok (.iload_n 1, 1) := by decide +kernel
theorem dX3_telling_7 : decode cX3_telling 7 = .ok (.aload_n 2, 1) := by decide +kernel
theorem dX3_telling_8 : decode cX3_telling 8 = .ok (.invokevirtual 13, 3) := by decide +kernel
theorem dX3_telling_11 : decode cX3_telling 11 = .ok (.bipush 100, 2) := by decide +kernel
theorem dX3_telling_13 : decode cX3_telling 13 = .ok (.iadd, 1) := by decide +kernel
theorem dX3_telling_14 : decode cX3_telling 14 = .ok (.ireturn, 1) := by decide +kernel
theorem dX4_init_0 : decode cX4_init 0 = .ok (.aload_n 0, 1) := by decide +kernel
theorem dX4_init_1 : decode cX4_init 1 = .ok (.invokespecial 3, 3) := by decide +kernel
theorem dX4_init_4 : decode cX4_init 4 = .ok (.aload_n 0, 1) := by decide +kernel
theorem dX4_init_5 : decode cX4_init 5 = .ok (.bipush 60, 2) := by decide +kernel
theorem dX4_init_7 : decode cX4_init 7 = .ok (.newarray .int, 2) := by decide +kernel
theorem dX4_init_9 : decode cX4_init 9 = .ok (.putfield 9, 3) := by decide +kernel
theorem dX4_init_12 : decode cX4_init 12 = .ok (.aload_n 0, 1) := by decide +kernel
theorem dX4_init_13 : decode cX4_init 13 = .ok (.iconst (-1), 1) := by decide +kernel
theorem dX4_init_14 : decode cX4_init 14 = .ok (.putfield 15, 3) := by decide +kernel
theorem dX4_init_17 : decode cX4_init 17 = .ok (.return_, 1) := by decide +kernel
theorem dX4_hasNothing_0 : decode cX4_hasNothing 0 = .ok (.aload_n 0, 1) := by decide +kernel
theorem dX4_hasNothing_1 : decode cX4_hasNothing 1 = .ok (.getfield 15, 3) := by decide +kernel
theorem dX4_hasNothing_4 : decode cX4_hasNothing 4 = .ok (.iconst (-1), 1) := by decide +kernel
theorem dX4_hasNothing_5 : decode cX4_hasNothing 5 = .ok (.if_icmp .ne 7, 3) := by decide +kernel
theorem dX4_hasNothing_8 : decode cX4_hasNothing 8 = .ok (.iconst 1, 1) := by decide +kernel
theorem dX4_hasNothing_9 : decode cX4_hasNothing 9 = .ok (.goto 4, 3) := by decide +kernel
theorem dX4_hasNothing_12 : decode cX4_hasNothing 12 = .ok (.iconst 0, 1) := by decide +kernel
theorem dX4_hasNothing_13 : decode cX4_hasNothing 13 = .ok (.ireturn, 1) := by decide +kernel
theorem dX4_renew_0 : decode cX4_renew 0 = .ok (.aload_n 0, 1) := by decide +kernel
theorem dX4_renew_1 : decode cX4_renew 1 = .ok (.iload_n 1, 1) := by decide +kernel
theorem dX4_renew_2 : decode cX4_renew 2 = .ok (.putfield 19, 3) := by decide +kernel
theorem dX4_renew_5 : decode cX4_renew 5 = .ok (.aload_n 0, 1) := by decide +kernel
theorem dX4_renew_6 : decode cX4_renew 6 = .ok (.iconst 0, 1) := by decide +kernel
theorem dX4_renew_7 : decode cX4_renew 7 = .ok (.iload_n 2, 1) := by decide +kernel
theorem dX4_renew_8 : decode cX4_renew 8 = .ok (.bipush 60, 2) := by decide +kernel
theorem dX4_renew_10 : decode cX4_renew 10 = .ok (.invokestatic 22, 3) := by decide +kernel
theorem dX4_renew_13 : decode cX4_renew 13 = .ok (.invokestatic 28, 3) := by decide +kernel
theorem dX4_renew_16 : decode cX4_renew 16 = .ok (.putfield 15, 3) := by decide +kernel
theorem dX4_renew_19 : decode cX4_renew 19 = .ok (.iconst 0, 1) := by decide +kernel
theorem dX4_renew_20 : decode cX4_renew 20 = .ok (.istore_n 3, 1) := by decide +kernel
theorem dX4_renew_21 : decode cX4_renew 21 = .ok (.iload_n 3, 1) := by decide +kernel
theorem dX4_renew_22 : decode cX4_renew 22 = .ok (.bipush 60, 2) := by decide +kernel
theorem dX4_renew_24 : decode cX4_renew 24 = .ok (.if_icmp .ge 16, 3) := by decide +kernel
theorem dX4_renew_27 : decode cX4_renew 27 = .ok (.aload_n 0, 1) := by decide +kernel
theorem dX4_renew_28 : decode cX4_renew 28 = .ok (.getfield 9, 3) := by decide +kernel
theorem dX4_renew_31 : decode cX4_renew 31 = .ok (.iload_n 3, 1) := by decide +kernel
theorem dX4_renew_32 : decode cX4_renew 32 = .ok (.iconst 0, 1) := by decide +kernel
theorem dX4_renew_33 : decode cX4_renew 33 = .ok (.iastore, 1) := by decide +kernel
theorem dX4_renew_34 : decode cX4_renew 34 = .ok (.iinc 3 1, 3) := by decide +kernel
theorem dX4_renew_37 : decode cX4_renew 37 = .ok (.goto (-16), 3) := by decide +kernel
theorem dX4_renew_40 : decode cX4_renew 40 = .ok (.return_, 1) := by decide +kernel
theorem dX4_loseRow_0 : decode cX4_loseRow 0 = .ok (.aload_n 0, 1) := by decide +kernel
theorem dX4_loseRow_1 : decode cX4_loseRow 1 = .ok (.iconst (-1), 1) := by decide +kernel
theorem dX4_loseRow_2 : decode cX4_loseRow 2 = .ok (.putfield 15, 3) := by decide +kernel
theorem dX4_loseRow_5 : decode cX4_loseRow 5 = .ok (.return_, 1) := by decide +kernel
set_option maxRecDepth 20000 in
theorem ggX4_isOfLane_X4_hasNothing : GoodIn wsX4_isOfLane wsX4_hasNothing := goodIn_r _ [6, 7, 8, 9, 10] (by decide +kernel) (by decide +kernel)
set_option maxRecDepth 20000 in
theorem gX4_isOfLane_X4_hasNothing : GoodIn wsX4_isOfLane (wsV RX4 31 RX4 yX4_hasNothing wsX4_hasNothing) := goodIn_app (goodIn_of _ (by decide +kernel)) ggX4_isOfLane_X4_hasNothing
theorem dX4_isOfLane_0 : decode cX4_isOfLane 0 = .ok (.aload_n 0, 1) := by decide +kernel
theorem dX4_isOfLane_1 : decode cX4_isOfLane 1 = .ok (.invokevirtual 31, 3) := by decide +kernel
theorem dX4_isOfLane_4 : decode cX4_isOfLane 4 = .ok (.ifCond .ne 11, 3) := by decide +kernel
theorem dX4_isOfLane_7 : decode cX4_isOfLane 7 = .ok (.aload_n 0, 1) := by decide +kernel
theorem dX4_isOfLane_8 : decode cX4_isOfLane 8 = .ok (.getfield 19, 3) := by decide +kernel
theorem dX4_isOfLane_11 : decode cX4_isOfLane 11 = .ok (.iload_n 1, 1) := by decide +kernel
theorem dX4_isOfLane_12 : decode cX4_isOfLane 12 = .ok (.if_icmp .ne 7, 3) := by decide +kernel
theorem dX4_isOfLane_15 : decode cX4_isOfLane 15 = .ok (.iconst 1, 1) := by decide +kernel
theorem dX4_isOfLane_16 : decode cX4_isOfLane 16 = .ok (.goto 4, 3) := by decide +kernel
theorem dX4_isOfLane_19 : decode cX4_isOfLane 19 = .ok (.iconst 0, 1) := by decide +kernel
theorem dX4_isOfLane_20 : decode cX4_isOfLane 20 = .ok (.ireturn, 1) := by decide +kernel
theorem dX4_hasCell_0 : decode cX4_hasCell 0 = .ok (.iload_n 1, 1) := by decide +kernel
theorem dX4_hasCell_1 : decode cX4_hasCell 1 = .ok (.ifCond .lt 15, 3) := by decide +kernel
theorem dX4_hasCell_4 : decode cX4_hasCell 4 = .ok (.iload_n 1, 1) := by decide +kernel
theorem dX4_hasCell_5 : decode cX4_hasCell 5 = .ok (.aload_n 0, 1) := by decide +kernel
theorem dX4_hasCell_6 : decode cX4_hasCell 6 = .ok (.getfield 15, 3) := by decide +kernel
theorem dX4_hasCell_9 : decode cX4_hasCell 9 = .ok (.if_icmp .ge 7, 3) := by decide +kernel
theorem dX4_hasCell_12 : decode cX4_hasCell 12 = .ok (.iconst 1, 1) := by decide +kernel
theorem dX4_hasCell_13 : decode cX4_hasCell 13 = .ok (.goto 4, 3) := by decide +kernel
theorem dX4_hasCell_16 : decode cX4_hasCell 16 = .ok (.iconst 0, 1) := by decide +kernel
theorem dX4_hasCell_17 : decode cX4_hasCell 17 = .ok (.ireturn, 1) := by decide +kernel
theorem dX4_hasCells_0 : decode cX4_hasCells 0 = .ok (.iload_n 1, 1) := by decide +kernel
theorem dX4_hasCells_1 : decode cX4_hasCells 1 = .ok (.ifCond .lt 29, 3) := by decide +kernel
theorem dX4_hasCells_4 : decode cX4_hasCells 4 = .ok (.iload_n 1, 1) := by decide +kernel
theorem dX4_hasCells_5 : decode cX4_hasCells 5 = .ok (.aload_n 0, 1) := by decide +kernel
theorem dX4_hasCells_6 : decode cX4_hasCells 6 = .ok (.getfield 15, 3) := by decide +kernel
theorem dX4_hasCells_9 : decode cX4_hasCells 9 = .ok (.if_icmp .gt 21, 3) := by decide +kernel
theorem dX4_hasCells_12 : decode cX4_hasCells 12 = .ok (.iload_n 2, 1) := by decide +kernel
theorem dX4_hasCells_13 : decode cX4_hasCells 13 = .ok (.ifCond .lt 17, 3) := by decide +kernel
theorem dX4_hasCells_16 : decode cX4_hasCells 16 = .ok (.iload_n 2, 1) := by decide +kernel
theorem dX4_hasCells_17 : decode cX4_hasCells 17 = .ok (.aload_n 0, 1) := by decide +kernel
theorem dX4_hasCells_18 : decode cX4_hasCells 18 = .ok (.getfield 15, 3) := by decide +kernel
theorem dX4_hasCells_21 : decode cX4_hasCells 21 = .ok (.iload_n 1, 1) := by decide +kernel
theorem dX4_hasCells_22 : decode cX4_hasCells 22 = .ok (.isub, 1) := by decide +kernel
theorem dX4_hasCells_23 : decode cX4_hasCells 23 = .ok (.if_icmp .gt 7, 3) := by decide +kernel
theorem dX4_hasCells_26 : decode cX4_hasCells 26 = .ok (.iconst 1, 1) := by decide +kernel
theorem dX4_hasCells_27 : decode cX4_hasCells 27 = .ok (.goto 4, 3) := by decide +kernel
theorem dX4_hasCells_30 : decode cX4_hasCells 30 = .ok (.iconst 0, 1) := by decide +kernel
theorem dX4_hasCells_31 : decode cX4_hasCells 31 = .ok (.ireturn, 1) := by decide +kernel
set_option maxRecDepth 20000 in
theorem ggX4_setCut_X4_hasCell : GoodIn wsX4_setCut wsX4_hasCell := goodIn_r _ [7, 8, 9, 10, 11] (by decide +kernel) (by decide +kernel)
set_option maxRecDepth 20000 in
theorem gX4_setCut_X4_hasCell : GoodIn wsX4_setCut (wsV RX4 35 RX4 yX4_hasCell wsX4_hasCell) := goodIn_app (goodIn_of _ (by decide +kernel)) ggX4_setCut_X4_hasCell
theorem dX4_setCut_0 : decode cX4_setCut 0 = .ok (.aload_n 0, 1) := by decide +kernel
theorem dX4_setCut_1 : decode cX4_setCut 1 = .ok (.iload_n 1, 1) := by decide +kernel
theorem dX4_setCut_2 : decode cX4_setCut 2 = .ok (.invokevirtual 35, 3) := by decide +kernel
theorem dX4_setCut_5 : decode cX4_setCut 5 = .ok (.ifCond .ne 4, 3) := by decide +kernel
theorem dX4_setCut_8 : decode cX4_setCut 8 = .ok (.return_, 1) := by decide +kernel
theorem dX4_setCut_9 : decode cX4_setCut 9 = .ok (.aload_n 0, 1) := by decide +kernel
theorem dX4_setCut_10 : decode cX4_setCut 10 = .ok (.getfield 9, 3) := by decide +kernel
theorem dX4_setCut_13 : decode cX4_setCut 13 = .ok (.iload_n 1, 1) := by decide +kernel
theorem dX4_setCut_14 : decode cX4_setCut 14 = .ok (.aload_n 0, 1) := by decide +kernel
theorem dX4_setCut_15 : decode cX4_setCut 15 = .ok (.getfield 19, 3) := by decide +kernel
theorem dX4_setCut_18 : decode cX4_setCut 18 = .ok (.ifCond .ne 8, 3) := by decide +kernel
theorem dX4_setCut_21 : decode cX4_setCut 21 = .ok (.iload_n 2, 1) := by decide +kernel
theorem dX4_setCut_22 : decode cX4_setCut 22 = .ok (.i2b, 1) := by decide +kernel
theorem dX4_setCut_23 : decode cX4_setCut 23 = .ok (.goto 17, 3) := by decide +kernel
theorem dX4_setCut_26 : decode cX4_setCut 26 = .ok (.aload_n 0, 1) := by decide +kernel
theorem dX4_setCut_27 : decode cX4_setCut 27 = .ok (.getfield 19, 3) := by decide +kernel
theorem dX4_setCut_30 : decode cX4_setCut 30 = .ok (.iconst 1, 1) := by decide +kernel
theorem dX4_setCut_31 : decode cX4_setCut 31 = .ok (.if_icmp .ne 8, 3) := by decide +kernel
theorem dX4_setCut_34 : decode cX4_setCut 34 = .ok (.iload_n 2, 1) := by decide +kernel
theorem dX4_setCut_35 : decode cX4_setCut 35 = .ok (.i2s, 1) := by decide +kernel
theorem dX4_setCut_36 : decode cX4_setCut 36 = .ok (.goto 4, 3) := by decide +kernel
theorem dX4_setCut_39 : decode cX4_setCut 39 = .ok (.iload_n 2, 1) := by decide +kernel
theorem dX4_setCut_40 : decode cX4_setCut 40 = .ok (.iastore, 1) := by decide +kernel
theorem dX4_setCut_41 : decode cX4_setCut 41 = .ok (.return_, 1) := by decide +kernel
set_option maxRecDepth 20000 in
theorem ggX4_valueAt_X4_hasCell : GoodIn wsX4_valueAt wsX4_hasCell := goodIn_r _ [6, 7, 8, 9, 10] (by decide +kernel) (by decide +kernel)
set_option maxRecDepth 20000 in
theorem gX4_valueAt_X4_hasCell : GoodIn wsX4_valueAt (wsV RX4 35 RX4 yX4_hasCell wsX4_hasCell) := goodIn_app (goodIn_of _ (by decide +kernel)) ggX4_valueAt_X4_hasCell
theorem dX4_valueAt_0 : decode cX4_valueAt 0 = .ok (.aload_n 0, 1) := by decide +kernel
theorem dX4_valueAt_1 : decode cX4_valueAt 1 = .ok (.iload_n 1, 1) := by decide +kernel
theorem dX4_valueAt_2 : decode cX4_valueAt 2 = .ok (.invokevirtual 35, 3) := by decide +kernel
theorem dX4_valueAt_5 : decode cX4_valueAt 5 = .ok (.ifCond .eq 12, 3) := by decide +kernel
theorem dX4_valueAt_8 : decode cX4_valueAt 8 = .ok (.aload_n 0, 1) := by decide +kernel
theorem dX4_valueAt_9 : decode cX4_valueAt 9 = .ok (.getfield 9, 3) := by decide +kernel
theorem dX4_valueAt_12 : decode cX4_valueAt 12 = .ok (.iload_n 1, 1) := by decide +kernel
theorem dX4_valueAt_13 : decode cX4_valueAt 13 = .ok (.iaload, 1) := by decide +kernel
theorem dX4_valueAt_14 : decode cX4_valueAt 14 = .ok (.goto 4, 3) := by decide +kernel
theorem dX4_valueAt_17 : decode cX4_valueAt 17 = .ok (.iconst 0, 1) := by decide +kernel
theorem dX4_valueAt_18 : decode cX4_valueAt 18 = .ok (.ireturn, 1) := by decide +kernel
set_option maxRecDepth 20000 in
theorem ggX5_init_X1_init : GoodIn wsX5_init wsX1_init := goodIn_r _ [22, 23, 2, 3] (by decide +kernel) (by decide +kernel)
set_option maxRecDepth 20000 in
theorem gX5_init_X1_init_n11 : GoodIn wsX5_init (wsX1_init) := ggX5_init_X1_init
set_option maxRecDepth 20000 in
theorem ggX5_init_X3_init : GoodIn wsX5_init wsX3_init := goodIn_r _ [25, 21, 6, 22, 23, 2, 3] (by decide +kernel) (by decide +kernel)
set_option maxRecDepth 20000 in
theorem gX5_init_X3_init_n14 : GoodIn wsX5_init (wsX3_init) := ggX5_init_X3_init
set_option maxRecDepth 20000 in
theorem ggX5_init_X0_init : GoodIn wsX5_init wsX0_init := goodIn_r _ [27, 24, 9, 25, 21, 6, 22, 23, 2, 3] (by decide +kernel) (by decide +kernel)
set_option maxRecDepth 20000 in
theorem gX5_init_X0_init_n17 : GoodIn wsX5_init (wsX0_init) := ggX5_init_X0_init
theorem dX5_init_0 : decode cX5_init 0 = .ok (.aload_n 0, 1) := by decide +kernel
theorem dX5_init_1 : decode cX5_init 1 = .ok (.invokespecial 3, 3) := by decide +kernel
theorem dX5_init_4 : decode cX5_init 4 = .ok (.aload_n 0, 1) := by decide +kernel
theorem dX5_init_5 : decode cX5_init 5 = .ok (.iconst 3, 1) := by decide +kernel
theorem dX5_init_6 : decode cX5_init 6 = .ok (.anewarray 9, 3) := by decide +kernel
theorem dX5_init_9 : decode cX5_init 9 = .ok (.dup, 1) := by decide +kernel
theorem dX5_init_10 : decode cX5_init 10 = .ok (.iconst 0, 1) := by decide +kernel
theorem dX5_init_11 : decode cX5_init 11 = .ok (.new 9, 3) := by decide +kernel
theorem dX5_init_14 : decode cX5_init 14 = .ok (.dup, 1) := by decide +kernel
theorem dX5_init_15 : decode cX5_init 15 = .ok (.invokespecial 11, 3) := by decide +kernel
theorem dX5_init_18 : decode cX5_init 18 = .ok (.aastore, 1) := by decide +kernel
theorem dX5_init_19 : decode cX5_init 19 = .ok (.dup, 1) := by decide +kernel
theorem dX5_init_20 : decode cX5_init 20 = .ok (.iconst 1, 1) := by decide +kernel
theorem dX5_init_21 : decode cX5_init 21 = .ok (.new 12, 3) := by decide +kernel
theorem dX5_init_24 : decode cX5_init 24 = .ok (.dup, 1) := by decide +kernel
theorem dX5_init_25 : decode cX5_init 25 = .ok (.invokespecial 14, 3) := by decide +kernel
theorem dX5_init_28 : decode cX5_init 28 = .ok (.aastore, 1) := by decide +kernel
theorem dX5_init_29 : decode cX5_init 29 = .ok (.dup, 1) := by decide +kernel
theorem dX5_init_30 : decode cX5_init 30 = .ok (.iconst 2, 1) := by decide +kernel
theorem dX5_init_31 : decode cX5_init 31 = .ok (.new 15, 3) := by decide +kernel
theorem dX5_init_34 : decode cX5_init 34 = .ok (.dup, 1) := by decide +kernel
theorem dX5_init_35 : decode cX5_init 35 = .ok (.invokespecial 17, 3) := by decide +kernel
theorem dX5_init_38 : decode cX5_init 38 = .ok (.aastore, 1) := by decide +kernel
theorem dX5_init_39 : decode cX5_init 39 = .ok (.putfield 18, 3) := by decide +kernel
theorem dX5_init_42 : decode cX5_init 42 = .ok (.aload_n 0, 1) := by decide +kernel
theorem dX5_init_43 : decode cX5_init 43 = .ok (.bipush 6, 2) := by decide +kernel
theorem dX5_init_45 : decode cX5_init 45 = .ok (.newarray .int, 2) := by decide +kernel
theorem dX5_init_47 : decode cX5_init 47 = .ok (.putfield 24, 3) := by decide +kernel
theorem dX5_init_50 : decode cX5_init 50 = .ok (.aload_n 0, 1) := by decide +kernel
theorem dX5_init_51 : decode cX5_init 51 = .ok (.bipush 6, 2) := by decide +kernel
theorem dX5_init_53 : decode cX5_init 53 = .ok (.bipush 6, 2) := by decide +kernel
theorem dX5_init_55 : decode cX5_init 55 = .ok (.multianewarray 28 2, 4) := by decide +kernel
theorem dX5_init_59 : decode cX5_init 59 = .ok (.putfield 30, 3) := by decide +kernel
theorem dX5_init_62 : decode cX5_init 62 = .ok (.aload_n 0, 1) := by decide +kernel
theorem dX5_init_63 : decode cX5_init 63 = .ok (.bipush 6, 2) := by decide +kernel
theorem dX5_init_65 : decode cX5_init 65 = .ok (.newarray .int, 2) := by decide +kernel
theorem dX5_init_67 : decode cX5_init 67 = .ok (.putfield 33, 3) := by decide +kernel
theorem dX5_init_70 : decode cX5_init 70 = .ok (.aload_n 0, 1) := by decide +kernel
theorem dX5_init_71 : decode cX5_init 71 = .ok (.bipush 6, 2) := by decide +kernel
theorem dX5_init_73 : decode cX5_init 73 = .ok (.newarray .boolean, 2) := by decide +kernel
theorem dX5_init_75 : decode cX5_init 75 = .ok (.putfield 36, 3) := by decide +kernel
theorem dX5_init_78 : decode cX5_init 78 = .ok (.return_, 1) := by decide +kernel
theorem dX5_becomeLike_0 : decode cX5_becomeLike 0 = .ok (.aload_n 0, 1) := by decide +kernel
theorem dX5_becomeLike_1 : decode cX5_becomeLike 1 = .ok (.aload_n 1, 1) := by decide +kernel
theorem dX5_becomeLike_2 : decode cX5_becomeLike 2 = .ok (.getfield 40, 3) := by decide +kernel
theorem dX5_becomeLike_5 : decode cX5_becomeLike 5 = .ok (.putfield 40, 3) := by decide +kernel
theorem dX5_becomeLike_8 : decode cX5_becomeLike 8 = .ok (.aload_n 0, 1) := by decide +kernel
theorem dX5_becomeLike_9 : decode cX5_becomeLike 9 = .ok (.aload_n 1, 1) := by decide +kernel
theorem dX5_becomeLike_10 : decode cX5_becomeLike 10 = .ok (.getfield 44, 3) := by decide +kernel
theorem dX5_becomeLike_13 : decode cX5_becomeLike 13 = .ok (.putfield 44, 3) := by decide +kernel
theorem dX5_becomeLike_16 : decode cX5_becomeLike 16 = .ok (.iconst 0, 1) := by decide +kernel
theorem dX5_becomeLike_17 : decode cX5_becomeLike 17 = .ok (.istore_n 2, 1) := by decide +kernel
theorem dX5_becomeLike_18 : decode cX5_becomeLike 18 = .ok (.iload_n 2, 1) := by decide +kernel
theorem dX5_becomeLike_19 : decode cX5_becomeLike 19 = .ok (.bipush 6, 2) := by decide +kernel
theorem dX5_becomeLike_21 : decode cX5_becomeLike 21 = .ok (.if_icmp .ge 51, 3) := by decide +kernel
theorem dX5_becomeLike_24 : decode cX5_becomeLike 24 = .ok (.aload_n 0, 1) := by decide +kernel
theorem dX5_becomeLike_25 : decode cX5_becomeLike 25 = .ok (.getfield 24, 3) := by decide +kernel
theorem dX5_becomeLike_28 : decode cX5_becomeLike 28 = .ok (.iload_n 2, 1) := by decide +kernel
theorem dX5_becomeLike_29 : decode cX5_becomeLike 29 = .ok (.aload_n 1, 1) := by decide +kernel
theorem dX5_becomeLike_30 : decode cX5_becomeLike 30 = .ok (.getfield 24, 3) := by decide +kernel
theorem dX5_becomeLike_33 : decode cX5_becomeLike 33 = .ok (.iload_n 2, 1) := by decide +kernel
theorem dX5_becomeLike_34 : decode cX5_becomeLike 34 = .ok (.iaload, 1) := by decide +kernel
theorem dX5_becomeLike_35 : decode cX5_becomeLike 35 = .ok (.iastore, 1) := by decide +kernel
theorem dX5_becomeLike_36 : decode cX5_becomeLike 36 = .ok (.iconst 0, 1) := by decide +kernel
theorem dX5_becomeLike_37 : decode cX5_becomeLike 37 = .ok (.istore_n 3, 1) := by decide +kernel
theorem dX5_becomeLike_38 : decode cX5_becomeLike 38 = .ok (.iload_n 3, 1) := by decide +kernel
theorem dX5_becomeLike_39 : decode cX5_becomeLike 39 = .ok (.bipush 6, 2) := by decide +kernel
theorem dX5_becomeLike_41 : decode cX5_becomeLike 41 = .ok (.if_icmp .ge 25, 3) := by decide +kernel
theorem dX5_becomeLike_44 : decode cX5_becomeLike 44 = .ok (.aload_n 0, 1) := by decide +kernel
theorem dX5_becomeLike_45 : decode cX5_becomeLike 45 = .ok (.getfield 30, 3) := by decide +kernel
theorem dX5_becomeLike_48 : decode cX5_becomeLike 48 = .ok (.iload_n 2, 1) := by decide +kernel
theorem dX5_becomeLike_49 : decode cX5_becomeLike 49 = .ok (.aaload, 1) := by decide +kernel
theorem dX5_becomeLike_50 : decode cX5_becomeLike 50 = .ok (.iload_n 3, 1) := by decide +kernel
theorem dX5_becomeLike_51 : decode cX5_becomeLike 51 = .ok (.aload_n 1, 1) := by decide +kernel
theorem dX5_becomeLike_52 : decode cX5_becomeLike 52 = .ok (.getfield 30, 3) := by decide +kernel
theorem dX5_becomeLike_55 : decode cX5_becomeLike 55 = .ok (.iload_n 2, 1) := by decide +kernel
theorem dX5_becomeLike_56 : decode cX5_becomeLike 56 = .ok (.aaload, 1) := by decide +kernel
theorem dX5_becomeLike_57 : decode cX5_becomeLike 57 = .ok (.iload_n 3, 1) := by decide +kernel
theorem dX5_becomeLike_58 : decode cX5_becomeLike 58 = .ok (.iaload, 1) := by decide +kernel
theorem dX5_becomeLike_59 : decode cX5_becomeLike 59 = .ok (.iastore, 1) := by decide +kernel
theorem dX5_becomeLike_60 : decode cX5_becomeLike 60 = .ok (.iinc 3 1, 3) := by decide +kernel
theorem dX5_becomeLike_63 : decode cX5_becomeLike 63 = .ok (.goto (-25), 3) := by decide +kernel
theorem dX5_becomeLike_66 : decode cX5_becomeLike 66 = .ok (.iinc 2 1, 3) := by decide +kernel
theorem dX5_becomeLike_69 : decode cX5_becomeLike 69 = .ok (.goto (-51), 3) := by decide +kernel
theorem dX5_becomeLike_72 : decode cX5_becomeLike 72 = .ok (.return_, 1) := by decide +kernel
set_option maxRecDepth 20000 in
theorem ggX5_readText_X4_valueAt : GoodIn wsX5_readText wsX4_valueAt := goodIn_r _ [6, 7, 8, 9, 10, 5, 11, 12, 48, 49, 50] (by decide +kernel) (by decide +kernel)
set_option maxRecDepth 20000 in
theorem gX5_readText_X4_valueAt : GoodIn wsX5_readText (wsV RX5 47 RX4 yX4_valueAt wsX4_valueAt) := goodIn_app (goodIn_of _ (by decide +kernel)) ggX5_readText_X4_valueAt
set_option maxRecDepth 20000 in
theorem ggX5_readText_X5_takesCode : GoodIn wsX5_readText wsX5_takesCode := goodIn_r _ [17, 1, 18, 19, 20, 16, 21, 22, 23, 24, 25, 26, 27, 28, 29, 30, 31, 32, 33, 34, 35, 36, 37, 38, 39, 40, 41, 42, 43, 44, 45, 46, 47] (by decide +kernel) (by decide +kernel)
set_option maxRecDepth 20000 in
theorem gX5_readText_X5_takesCode : GoodIn wsX5_readText (wsV RX5 53 RX5 yX5_takesCode wsX5_takesCode) := goodIn_app (goodIn_of _ (by decide +kernel)) ggX5_readText_X5_takesCode
set_option maxRecDepth 20000 in
theorem ggX5_readText_X5_textLength : GoodIn wsX5_readText wsX5_textLength := goodIn_r _ [30, 1, 41, 42, 43, 44, 45, 46, 47] (by decide +kernel) (by decide +kernel)
set_option maxRecDepth 20000 in
theorem gX5_readText_X5_textLength : GoodIn wsX5_readText (wsV RX5 57 RX5 yX5_textLength wsX5_textLength) := goodIn_app (goodIn_of _ (by decide +kernel)) ggX5_readText_X5_textLength
theorem dX5_readText_0 : decode cX5_readText 0 = .ok (.aload_n 0, 1) := by decide +kernel
theorem dX5_readText_1 : decode cX5_readText 1 = .ok (.iconst 0, 1) := by decide +kernel
theorem dX5_readText_2 : decode cX5_readText 2 = .ok (.putfield 40, 3) := by decide +kernel
theorem dX5_readText_5 : decode cX5_readText 5 = .ok (.iconst 0, 1) := by decide +kernel
theorem dX5_readText_6 : decode cX5_readText 6 = .ok (.istore 4, 2) := by decide +kernel
theorem dX5_readText_8 : decode cX5_readText 8 = .ok (.iload 4, 2) := by decide +kernel
theorem dX5_readText_10 : decode cX5_readText 10 = .ok (.iload_n 3, 1) := by decide +kernel
theorem dX5_readText_11 : decode cX5_readText 11 = .ok (.if_icmp .ge 29, 3) := by decide +kernel
theorem dX5_readText_14 : decode cX5_readText 14 = .ok (.aload_n 0, 1) := by decide +kernel
theorem dX5_readText_15 : decode cX5_readText 15 = .ok (.iload 4, 2) := by decide +kernel
theorem dX5_readText_17 : decode cX5_readText 17 = .ok (.aload_n 1, 1) := by decide +kernel
theorem dX5_readText_18 : decode cX5_readText 18 = .ok (.iload_n 2, 1) := by decide +kernel
theorem dX5_readText_19 : decode cX5_readText 19 = .ok (.iload 4, 2) := by decide +kernel
theorem dX5_readText_21 : decode cX5_readText 21 = .ok (.iadd, 1) := by decide +kernel
theorem dX5_readText_22 : decode cX5_readText 22 = .ok (.invokevirtual 47, 3) := by decide +kernel
theorem dX5_readText_25 : decode cX5_readText 25 = .ok (.invokevirtual 53, 3) := by decide +kernel
theorem dX5_readText_28 : decode cX5_readText 28 = .ok (.ifCond .ne 6, 3) := by decide +kernel
theorem dX5_readText_31 : decode cX5_readText 31 = .ok (.iload 4, 2) := by decide +kernel
theorem dX5_readText_33 : decode cX5_readText 33 = .ok (.ireturn, 1) := by decide +kernel
theorem dX5_readText_34 : decode cX5_readText 34 = .ok (.iinc 4 1, 3) := by decide +kernel
theorem dX5_readText_37 : decode cX5_readText 37 = .ok (.goto (-29), 3) := by decide +kernel
theorem dX5_readText_40 : decode cX5_readText 40 = .ok (.iload_n 3, 1) := by decide +kernel
theorem dX5_readText_41 : decode cX5_readText 41 = .ok (.aload_n 0, 1) := by decide +kernel
theorem dX5_readText_42 : decode cX5_readText 42 = .ok (.invokevirtual 57, 3) := by decide +kernel
theorem dX5_readText_45 : decode cX5_readText 45 = .ok (.if_icmp .ge 7, 3) := by decide +kernel
theorem dX5_readText_48 : decode cX5_readText 48 = .ok (.iload_n 3, 1) := by decide +kernel
theorem dX5_readText_49 : decode cX5_readText 49 = .ok (.goto 5, 3) := by decide +kernel
theorem dX5_readText_52 : decode cX5_readText 52 = .ok (.bipush (-9), 2) := by decide +kernel
theorem dX5_readText_54 : decode cX5_readText 54 = .ok (.ireturn, 1) := by decide +kernel
theorem dX5_textLength_0 : decode cX5_textLength 0 = .ok (.iconst 3, 1) := by decide +kernel
theorem dX5_textLength_1 : decode cX5_textLength 1 = .ok (.aload_n 0, 1) := by decide +kernel
theorem dX5_textLength_2 : decode cX5_textLength 2 = .ok (.getfield 40, 3) := by decide +kernel
theorem dX5_textLength_5 : decode cX5_textLength 5 = .ok (.aload_n 0, 1) := by decide +kernel
theorem dX5_textLength_6 : decode cX5_textLength 6 = .ok (.getfield 40, 3) := by decide +kernel
theorem dX5_textLength_9 : decode cX5_textLength 9 = .ok (.iconst 2, 1) := by decide +kernel
theorem dX5_textLength_10 : decode cX5_textLength 10 = .ok (.iadd, 1) := by decide +kernel
theorem dX5_textLength_11 : decode cX5_textLength 11 = .ok (.imul, 1) := by decide +kernel
theorem dX5_textLength_12 : decode cX5_textLength 12 = .ok (.iadd, 1) := by decide +kernel
theorem dX5_textLength_13 : decode cX5_textLength 13 = .ok (.ireturn, 1) := by decide +kernel
set_option maxRecDepth 20000 in
theorem ggX5_takesCode_X5_takesPeople : GoodIn wsX5_takesCode wsX5_takesPeople := goodIn_r _ [6, 1, 26, 27, 28, 29, 30, 31, 32] (by decide +kernel) (by decide +kernel)
set_option maxRecDepth 20000 in
theorem gX5_takesCode_X5_takesPeople : GoodIn wsX5_takesCode (wsV RX5 61 RX5 yX5_takesPeople wsX5_takesPeople) := goodIn_app (goodIn_of _ (by decide +kernel)) ggX5_takesCode_X5_takesPeople
set_option maxRecDepth 20000 in
theorem ggX5_takesCode_X5_takesBell : GoodIn wsX5_takesCode wsX5_takesBell := goodIn_r _ [10, 11, 26, 27, 28, 29, 30, 31, 32] (by decide +kernel) (by decide +kernel)
set_option maxRecDepth 20000 in
theorem gX5_takesCode_X5_takesBell : GoodIn wsX5_takesCode (wsV RX5 65 RX5 yX5_takesBell wsX5_takesBell) := goodIn_app (goodIn_of _ (by decide +kernel)) ggX5_takesCode_X5_takesBell
set_option maxRecDepth 20000 in
theorem ggX5_takesCode_X5_textLength : GoodIn wsX5_takesCode wsX5_textLength := goodIn_r _ [15, 1, 26, 27, 28, 29, 30, 31, 32] (by decide +kernel) (by decide +kernel)
set_option maxRecDepth 20000 in
theorem gX5_takesCode_X5_textLength : GoodIn wsX5_takesCode (wsV RX5 57 RX5 yX5_textLength wsX5_textLength) := goodIn_app (goodIn_of _ (by decide +kernel)) ggX5_takesCode_X5_textLength
set_option maxRecDepth 20000 in
theorem ggX5_takesCode_X5_takesKind : GoodIn wsX5_takesCode wsX5_takesKind := goodIn_r _ [19, 20, 26, 27, 28, 29, 30, 31, 32] (by decide +kernel) (by decide +kernel)
set_option maxRecDepth 20000 in
theorem gX5_takesCode_X5_takesKind : GoodIn wsX5_takesCode (wsV RX5 68 RX5 yX5_takesKind wsX5_takesKind) := goodIn_app (goodIn_of _ (by decide +kernel)) ggX5_takesCode_X5_takesKind
set_option maxRecDepth 20000 in
theorem ggX5_takesCode_X5_takesPence : GoodIn wsX5_takesCode wsX5_takesPence := goodIn_r _ [24, 25, 26, 27, 28, 29, 30, 31, 32] (by decide +kernel) (by decide +kernel)
set_option maxRecDepth 20000 in
theorem gX5_takesCode_X5_takesPence : GoodIn wsX5_takesCode (wsV RX5 71 RX5 yX5_takesPence wsX5_takesPence) := goodIn_app (goodIn_of _ (by decide +kernel)) ggX5_takesCode_X5_takesPence
theorem dX5_takesCode_0 : decode cX5_takesCode 0 = .ok (.iload_n 1, 1) := by decide +kernel
theorem dX5_takesCode_1 : decode cX5_takesCode 1 = .ok (.ifCond .ne 15, 3) := by decide +kernel
theorem dX5_takesCode_4 : decode cX5_takesCode 4 = .ok (.iload_n 2, 1) := by decide +kernel
theorem dX5_takesCode_5 : decode cX5_takesCode 5 = .ok (.bipush 108, 2) := by decide +kernel
theorem dX5_takesCode_7 : decode cX5_takesCode 7 = .ok (.if_icmp .ne 7, 3) := by decide +kernel
theorem dX5_takesCode_10 : decode cX5_takesCode 10 = .ok (.iconst 1, 1) := by decide +kernel
theorem dX5_takesCode_11 : decode cX5_takesCode 11 = .ok (.goto 4, 3) := by decide +kernel
theorem dX5_takesCode_14 : decode cX5_takesCode 14 = .ok (.iconst 0, 1) := by decide +kernel
theorem dX5_takesCode_15 : decode cX5_takesCode 15 = .ok (.ireturn, 1) := by decide +kernel
theorem dX5_takesCode_16 : decode cX5_takesCode 16 = .ok (.iload_n 1, 1) := by decide +kernel
theorem dX5_takesCode_17 : decode cX5_takesCode 17 = .ok (.iconst 1, 1) := by decide +kernel
theorem dX5_takesCode_18 : decode cX5_takesCode 18 = .ok (.if_icmp .ne 12, 3) := by decide +kernel
theorem dX5_takesCode_21 : decode cX5_takesCode 21 = .ok (.aload_n 0, 1) := by decide +kernel
theorem dX5_takesCode_22 : decode cX5_takesCode 22 = .ok (.iload_n 2, 1) := by decide +kernel
theorem dX5_takesCode_23 : decode cX5_takesCode 23 = .ok (.bipush 48, 2) := by decide +kernel
theorem dX5_takesCode_25 : decode cX5_takesCode 25 = .ok (.isub, 1) := by decide +kernel
theorem dX5_takesCode_26 : decode cX5_takesCode 26 = .ok (.invokevirtual 61, 3) := by decide +kernel
theorem dX5_takesCode_29 : decode cX5_takesCode 29 = .ok (.ireturn, 1) := by decide +kernel
theorem dX5_takesCode_30 : decode cX5_takesCode 30 = .ok (.iload_n 1, 1) := by decide +kernel
theorem dX5_takesCode_31 : decode cX5_takesCode 31 = .ok (.iconst 2, 1) := by decide +kernel
theorem dX5_takesCode_32 : decode cX5_takesCode 32 = .ok (.if_icmp .ne 12, 3) := by decide +kernel
theorem dX5_takesCode_35 : decode cX5_takesCode 35 = .ok (.aload_n 0, 1) := by decide +kernel
theorem dX5_takesCode_36 : decode cX5_takesCode 36 = .ok (.iload_n 2, 1) := by decide +kernel
theorem dX5_takesCode_37 : decode cX5_takesCode 37 = .ok (.bipush 48, 2) := by decide +kernel
theorem dX5_takesCode_39 : decode cX5_takesCode 39 = .ok (.isub, 1) := by decide +kernel
theorem dX5_takesCode_40 : decode cX5_takesCode 40 = .ok (.invokevirtual 65, 3) := by decide +kernel
theorem dX5_takesCode_43 : decode cX5_takesCode 43 = .ok (.ireturn, 1) := by decide +kernel
theorem dX5_takesCode_44 : decode cX5_takesCode 44 = .ok (.iload_n 1, 1) := by decide +kernel
theorem dX5_takesCode_45 : decode cX5_takesCode 45 = .ok (.aload_n 0, 1) := by decide +kernel
theorem dX5_takesCode_46 : decode cX5_takesCode 46 = .ok (.invokevirtual 57, 3) := by decide +kernel
theorem dX5_takesCode_49 : decode cX5_takesCode 49 = .ok (.if_icmp .lt 5, 3) := by decide +kernel
theorem dX5_takesCode_52 : decode cX5_takesCode 52 = .ok (.iconst 0, 1) := by decide +kernel
theorem dX5_takesCode_53 : decode cX5_takesCode 53 = .ok (.ireturn, 1) := by decide +kernel
theorem dX5_takesCode_54 : decode cX5_takesCode 54 = .ok (.aload_n 0, 1) := by decide +kernel
theorem dX5_takesCode_55 : decode cX5_takesCode 55 = .ok (.getfield 40, 3) := by decide +kernel
theorem dX5_takesCode_58 : decode cX5_takesCode 58 = .ok (.iconst 2, 1) := by decide +kernel
theorem dX5_takesCode_59 : decode cX5_takesCode 59 = .ok (.iadd, 1) := by decide +kernel
theorem dX5_takesCode_60 : decode cX5_takesCode 60 = .ok (.istore_n 3, 1) := by decide +kernel
theorem dX5_takesCode_61 : decode cX5_takesCode 61 = .ok (.iload_n 1, 1) := by decide +kernel
theorem dX5_takesCode_62 : decode cX5_takesCode 62 = .ok (.iconst 3, 1) := by decide +kernel
theorem dX5_takesCode_63 : decode cX5_takesCode 63 = .ok (.isub, 1) := by decide +kernel
theorem dX5_takesCode_64 : decode cX5_takesCode 64 = .ok (.iload_n 3, 1) := by decide +kernel
theorem dX5_takesCode_65 : decode cX5_takesCode 65 = .ok (.idiv, 1) := by decide +kernel
theorem dX5_takesCode_66 : decode cX5_takesCode 66 = .ok (.istore 4, 2) := by decide +kernel
theorem dX5_takesCode_68 : decode cX5_takesCode 68 = .ok (.iload_n 1, 1) := by decide +kernel
theorem dX5_takesCode_69 : decode cX5_takesCode 69 = .ok (.iconst 3, 1) := by decide +kernel
theorem dX5_takesCode_70 : decode cX5_takesCode 70 = .ok (.isub, 1) := by decide +kernel
theorem dX5_takesCode_71 : decode cX5_takesCode 71 = .ok (.iload_n 3, 1) := by decide +kernel
theorem dX5_takesCode_72 : decode cX5_takesCode 72 = .ok (.irem, 1) := by decide +kernel
theorem dX5_takesCode_73 : decode cX5_takesCode 73 = .ok (.istore 5, 2) := by decide +kernel
theorem dX5_takesCode_75 : decode cX5_takesCode 75 = .ok (.iload 5, 2) := by decide +kernel
theorem dX5_takesCode_77 : decode cX5_takesCode 77 = .ok (.ifCond .ne 15, 3) := by decide +kernel
theorem dX5_takesCode_80 : decode cX5_takesCode 80 = .ok (.iload_n 2, 1) := by decide +kernel
theorem dX5_takesCode_81 : decode cX5_takesCode 81 = .ok (.bipush 44, 2) := by decide +kernel
theorem dX5_takesCode_83 : decode cX5_takesCode 83 = .ok (.if_icmp .ne 7, 3) := by decide +kernel
theorem dX5_takesCode_86 : decode cX5_takesCode 86 = .ok (.iconst 1, 1) := by decide +kernel
theorem dX5_takesCode_87 : decode cX5_takesCode 87 = .ok (.goto 4, 3) := by decide +kernel
theorem dX5_takesCode_90 : decode cX5_takesCode 90 = .ok (.iconst 0, 1) := by decide +kernel
theorem dX5_takesCode_91 : decode cX5_takesCode 91 = .ok (.ireturn, 1) := by decide +kernel
theorem dX5_takesCode_92 : decode cX5_takesCode 92 = .ok (.iload 5, 2) := by decide +kernel
theorem dX5_takesCode_94 : decode cX5_takesCode 94 = .ok (.iconst 1, 1) := by decide +kernel
theorem dX5_takesCode_95 : decode cX5_takesCode 95 = .ok (.if_icmp .ne 11, 3) := by decide +kernel
theorem dX5_takesCode_98 : decode cX5_takesCode 98 = .ok (.aload_n 0, 1) := by decide +kernel
theorem dX5_takesCode_99 : decode cX5_takesCode 99 = .ok (.iload 4, 2) := by decide +kernel
theorem dX5_takesCode_101 : decode cX5_takesCode 101 = .ok (.iload_n 2, 1) := by decide +kernel
theorem dX5_takesCode_102 : decode cX5_takesCode 102 = .ok (.invokevirtual 68, 3) := by decide +kernel
theorem dX5_takesCode_105 : decode cX5_takesCode 105 = .ok (.ireturn, 1) := by decide +kernel
theorem dX5_takesCode_106 : decode cX5_takesCode 106 = .ok (.aload_n 0, 1) := by decide +kernel
theorem dX5_takesCode_107 : decode cX5_takesCode 107 = .ok (.iload 4, 2) := by decide +kernel
theorem dX5_takesCode_109 : decode cX5_takesCode 109 = .ok (.iload 5, 2) := by decide +kernel
theorem dX5_takesCode_111 : decode cX5_takesCode 111 = .ok (.iconst 2, 1) := by decide +kernel
theorem dX5_takesCode_112 : decode cX5_takesCode 112 = .ok (.isub, 1) := by decide +kernel
theorem dX5_takesCode_113 : decode cX5_takesCode 113 = .ok (.iload_n 2, 1) := by decide +kernel
theorem dX5_takesCode_114 : decode cX5_takesCode 114 = .ok (.bipush 48, 2) := by decide +kernel
theorem dX5_takesCode_116 : decode cX5_takesCode 116 = .ok (.isub, 1) := by decide +kernel
theorem dX5_takesCode_117 : decode cX5_takesCode 117 = .ok (.invokevirtual 71, 3) := by decide +kernel
theorem dX5_takesCode_120 : decode cX5_takesCode 120 = .ok (.ireturn, 1) := by decide +kernel
theorem dX5_takesPeople_0 : decode cX5_takesPeople 0 = .ok (.iload_n 1, 1) := by decide +kernel
theorem dX5_takesPeople_1 : decode cX5_takesPeople 1 = .ok (.iconst 2, 1) := by decide +kernel
theorem dX5_takesPeople_2 : decode cX5_takesPeople 2 = .ok (.if_icmp .lt 9, 3) := by decide +kernel
theorem dX5_takesPeople_5 : decode cX5_takesPeople 5 = .ok (.iload_n 1, 1) := by decide +kernel
theorem dX5_takesPeople_6 : decode cX5_takesPeople 6 = .ok (.bipush 6, 2) := by decide +kernel
theorem dX5_takesPeople_8 : decode cX5_takesPeople 8 = .ok (.if_icmp .le 5, 3) := by decide +kernel
theorem dX5_takesPeople_11 : decode cX5_takesPeople 11 = .ok (.iconst 0, 1) := by decide +kernel
theorem dX5_takesPeople_12 : decode cX5_takesPeople 12 = .ok (.ireturn, 1) := by decide +kernel
theorem dX5_takesPeople_13 : decode cX5_takesPeople 13 = .ok (.aload_n 0, 1) := by decide +kernel
theorem dX5_takesPeople_14 : decode cX5_takesPeople 14 = .ok (.iload_n 1, 1) := by decide +kernel
theorem dX5_takesPeople_15 : decode cX5_takesPeople 15 = .ok (.putfield 40, 3) := by decide +kernel
theorem dX5_takesPeople_18 : decode cX5_takesPeople 18 = .ok (.iconst 1, 1) := by decide +kernel
theorem dX5_takesPeople_19 : decode cX5_takesPeople 19 = .ok (.ireturn, 1) := by decide +kernel
theorem dX5_takesBell_0 : decode cX5_takesBell 0 = .ok (.iload_n 1, 1) := by decide +kernel
theorem dX5_takesBell_1 : decode cX5_takesBell 1 = .ok (.ifCond .lt 9, 3) := by decide +kernel
theorem dX5_takesBell_4 : decode cX5_takesBell 4 = .ok (.iload_n 1, 1) := by decide +kernel
theorem dX5_takesBell_5 : decode cX5_takesBell 5 = .ok (.bipush 9, 2) := by decide +kernel
theorem dX5_takesBell_7 : decode cX5_takesBell 7 = .ok (.if_icmp .le 5, 3) := by decide +kernel
theorem dX5_takesBell_10 : decode cX5_takesBell 10 = .ok (.iconst 0, 1) := by decide +kernel
theorem dX5_takesBell_11 : decode cX5_takesBell 11 = .ok (.ireturn, 1) := by decide +kernel
theorem dX5_takesBell_12 : decode cX5_takesBell 12 = .ok (.aload_n 0, 1) := by decide +kernel
theorem dX5_takesBell_13 : decode cX5_takesBell 13 = .ok (.iload_n 1, 1) := by decide +kernel
theorem dX5_takesBell_14 : decode cX5_takesBell 14 = .ok (.putfield 44, 3) := by decide +kernel
theorem dX5_takesBell_17 : decode cX5_takesBell 17 = .ok (.iconst 1, 1) := by decide +kernel
theorem dX5_takesBell_18 : decode cX5_takesBell 18 = .ok (.ireturn, 1) := by decide +kernel
theorem dX5_takesKind_0 : decode cX5_takesKind 0 = .ok (.iload_n 2, 1) := by decide +kernel
theorem dX5_takesKind_1 : decode cX5_takesKind 1 = .ok (.bipush 112, 2) := by decide +kernel
theorem dX5_takesKind_3 : decode cX5_takesKind 3 = .ok (.if_icmp .ne 7, 3) := by decide +kernel
theorem dX5_takesKind_6 : decode cX5_takesKind 6 = .ok (.iconst 0, 1) := by decide +kernel
theorem dX5_takesKind_7 : decode cX5_takesKind 7 = .ok (.goto 25, 3) := by decide +kernel
theorem dX5_takesKind_10 : decode cX5_takesKind 10 = .ok (.iload_n 2, 1) := by decide +kernel
theorem dX5_takesKind_11 : decode cX5_takesKind 11 = .ok (.bipush 114, 2) := by decide +kernel
theorem dX5_takesKind_13 : decode cX5_takesKind 13 = .ok (.if_icmp .ne 7, 3) := by decide +kernel
theorem dX5_takesKind_16 : decode cX5_takesKind 16 = .ok (.iconst 1, 1) := by decide +kernel
theorem dX5_takesKind_17 : decode cX5_takesKind 17 = .ok (.goto 15, 3) := by decide +kernel
theorem dX5_takesKind_20 : decode cX5_takesKind 20 = .ok (.iload_n 2, 1) := by decide +kernel
theorem dX5_takesKind_21 : decode cX5_takesKind 21 = .ok (.bipush 98, 2) := by decide +kernel
theorem dX5_takesKind_23 : decode cX5_takesKind 23 = .ok (.if_icmp .ne 7, 3) := by decide +kernel
theorem dX5_takesKind_26 : decode cX5_takesKind 26 = .ok (.iconst 2, 1) := by decide +kernel
theorem dX5_takesKind_27 : decode cX5_takesKind 27 = .ok (.goto 5, 3) := by decide +kernel
theorem dX5_takesKind_30 : decode cX5_takesKind 30 = .ok (.bipush (-9), 2) := by decide +kernel
theorem dX5_takesKind_32 : decode cX5_takesKind 32 = .ok (.istore_n 3, 1) := by decide +kernel
theorem dX5_takesKind_33 : decode cX5_takesKind 33 = .ok (.iload_n 3, 1) := by decide +kernel
theorem dX5_takesKind_34 : decode cX5_takesKind 34 = .ok (.bipush (-9), 2) := by decide +kernel
theorem dX5_takesKind_36 : decode cX5_takesKind 36 = .ok (.if_icmp .ne 5, 3) := by decide +kernel
theorem dX5_takesKind_39 : decode cX5_takesKind 39 = .ok (.iconst 0, 1) := by decide +kernel
theorem dX5_takesKind_40 : decode cX5_takesKind 40 = .ok (.ireturn, 1) := by decide +kernel
theorem dX5_takesKind_41 : decode cX5_takesKind 41 = .ok (.aload_n 0, 1) := by decide +kernel
theorem dX5_takesKind_42 : decode cX5_takesKind 42 = .ok (.getfield 24, 3) := by decide +kernel
theorem dX5_takesKind_45 : decode cX5_takesKind 45 = .ok (.iload_n 1, 1) := by decide +kernel
theorem dX5_takesKind_46 : decode cX5_takesKind 46 = .ok (.iload_n 3, 1) := by decide +kernel
theorem dX5_takesKind_47 : decode cX5_takesKind 47 = .ok (.iastore, 1) := by decide +kernel
theorem dX5_takesKind_48 : decode cX5_takesKind 48 = .ok (.iconst 1, 1) := by decide +kernel
theorem dX5_takesKind_49 : decode cX5_takesKind 49 = .ok (.ireturn, 1) := by decide +kernel
theorem dX5_takesPence_0 : decode cX5_takesPence 0 = .ok (.iload_n 1, 1) := by decide +kernel
theorem dX5_takesPence_1 : decode cX5_takesPence 1 = .ok (.iload_n 2, 1) := by decide +kernel
theorem dX5_takesPence_2 : decode cX5_takesPence 2 = .ok (.if_icmp .ne 7, 3) := by decide +kernel
theorem dX5_takesPence_5 : decode cX5_takesPence 5 = .ok (.iconst 0, 1) := by decide +kernel
theorem dX5_takesPence_6 : decode cX5_takesPence 6 = .ok (.goto 5, 3) := by decide +kernel
theorem dX5_takesPence_9 : decode cX5_takesPence 9 = .ok (.bipush 9, 2) := by decide +kernel
theorem dX5_takesPence_11 : decode cX5_takesPence 11 = .ok (.istore 4, 2) := by decide +kernel
theorem dX5_takesPence_13 : decode cX5_takesPence 13 = .ok (.iload_n 3, 1) := by decide +kernel
theorem dX5_takesPence_14 : decode cX5_takesPence 14 = .ok (.ifCond .lt 9, 3) := by decide +kernel
theorem dX5_takesPence_17 : decode cX5_takesPence 17 = .ok (.iload_n 3, 1) := by decide +kernel
theorem dX5_takesPence_18 : decode cX5_takesPence 18 = .ok (.iload 4, 2) := by decide +kernel
theorem dX5_takesPence_20 : decode cX5_takesPence 20 = .ok (.if_icmp .le 5, 3) := by decide +kernel
theorem dX5_takesPence_23 : decode cX5_takesPence 23 = .ok (.iconst 0, 1) := by decide +kernel
theorem dX5_takesPence_24 : decode cX5_takesPence 24 = .ok (.ireturn, 1) := by decide +kernel
theorem dX5_takesPence_25 : decode cX5_takesPence 25 = .ok (.aload_n 0, 1) := by decide +kernel
theorem dX5_takesPence_26 : decode cX5_takesPence 26 = .ok (.getfield 30, 3) := by decide +kernel
theorem dX5_takesPence_29 : decode cX5_takesPence 29 = .ok (.iload_n 1, 1) := by decide +kernel
theorem dX5_takesPence_30 : decode cX5_takesPence 30 = .ok (.aaload, 1) := by decide +kernel
theorem dX5_takesPence_31 : decode cX5_takesPence 31 = .ok (.iload_n 2, 1) := by decide +kernel
theorem dX5_takesPence_32 : decode cX5_takesPence 32 = .ok (.iload_n 3, 1) := by decide +kernel
theorem dX5_takesPence_33 : decode cX5_takesPence 33 = .ok (.iastore, 1) := by decide +kernel
theorem dX5_takesPence_34 : decode cX5_takesPence 34 = .ok (.iconst 1, 1) := by decide +kernel
theorem dX5_takesPence_35 : decode cX5_takesPence 35 = .ok (.ireturn, 1) := by decide +kernel
theorem dX5_penceInAll_0 : decode cX5_penceInAll 0 = .ok (.iconst 0, 1) := by decide +kernel
theorem dX5_penceInAll_1 : decode cX5_penceInAll 1 = .ok (.istore_n 2, 1) := by decide +kernel
theorem dX5_penceInAll_2 : decode cX5_penceInAll 2 = .ok (.iconst 0, 1) := by decide +kernel
theorem dX5_penceInAll_3 : decode cX5_penceInAll 3 = .ok (.istore_n 3, 1) := by decide +kernel
theorem dX5_penceInAll_4 : decode cX5_penceInAll 4 = .ok (.iload_n 3, 1) := by decide +kernel
theorem dX5_penceInAll_5 : decode cX5_penceInAll 5 = .ok (.aload_n 0, 1) := by decide +kernel
theorem dX5_penceInAll_6 : decode cX5_penceInAll 6 = .ok (.getfield 40, 3) := by decide +kernel
theorem dX5_penceInAll_9 : decode cX5_penceInAll 9 = .ok (.if_icmp .ge 20, 3) := by decide +kernel
theorem dX5_penceInAll_12 : decode cX5_penceInAll 12 = .ok (.iload_n 2, 1) := by decide +kernel
theorem dX5_penceInAll_13 : decode cX5_penceInAll 13 = .ok (.aload_n 0, 1) := by decide +kernel
theorem dX5_penceInAll_14 : decode cX5_penceInAll 14 = .ok (.getfield 30, 3) := by decide +kernel
theorem dX5_penceInAll_17 : decode cX5_penceInAll 17 = .ok (.iload_n 1, 1) := by decide +kernel
theorem dX5_penceInAll_18 : decode cX5_penceInAll 18 = .ok (.aaload, 1) := by decide +kernel
theorem dX5_penceInAll_19 : decode cX5_penceInAll 19 = .ok (.iload_n 3, 1) := by decide +kernel
theorem dX5_penceInAll_20 : decode cX5_penceInAll 20 = .ok (.iaload, 1) := by decide +kernel
theorem dX5_penceInAll_21 : decode cX5_penceInAll 21 = .ok (.iadd, 1) := by decide +kernel
theorem dX5_penceInAll_22 : decode cX5_penceInAll 22 = .ok (.istore_n 2, 1) := by decide +kernel
theorem dX5_penceInAll_23 : decode cX5_penceInAll 23 = .ok (.iinc 3 1, 3) := by decide +kernel
theorem dX5_penceInAll_26 : decode cX5_penceInAll 26 = .ok (.goto (-22), 3) := by decide +kernel
theorem dX5_penceInAll_29 : decode cX5_penceInAll 29 = .ok (.iload_n 2, 1) := by decide +kernel
theorem dX5_penceInAll_30 : decode cX5_penceInAll 30 = .ok (.ireturn, 1) := by decide +kernel
theorem dX5_bodyOf_0 : decode cX5_bodyOf 0 = .ok (.aload_n 0, 1) := by decide +kernel
theorem dX5_bodyOf_1 : decode cX5_bodyOf 1 = .ok (.getfield 18, 3) := by decide +kernel
theorem dX5_bodyOf_4 : decode cX5_bodyOf 4 = .ok (.aload_n 0, 1) := by decide +kernel
theorem dX5_bodyOf_5 : decode cX5_bodyOf 5 = .ok (.getfield 24, 3) := by decide +kernel
theorem dX5_bodyOf_8 : decode cX5_bodyOf 8 = .ok (.iload_n 1, 1) := by decide +kernel
theorem dX5_bodyOf_9 : decode cX5_bodyOf 9 = .ok (.iaload, 1) := by decide +kernel
theorem dX5_bodyOf_10 : decode cX5_bodyOf 10 = .ok (.aaload, 1) := by decide +kernel
theorem dX5_bodyOf_11 : decode cX5_bodyOf 11 = .ok (.areturn, 1) := by decide +kernel
set_option maxRecDepth 20000 in
theorem ggX5_weightOf_X0_weigh : GoodIn wsX5_weightOf wsX0_weigh := goodIn_r _ [10] (by decide +kernel) (by decide +kernel)
set_option maxRecDepth 20000 in
theorem gX5_weightOf_X0_weigh_u75X0 : GoodIn wsX5_weightOf (va_wsO RX5 75 RX0 "DebtLamps$Person" ⟨"DebtLamps$Person", "weigh", "(I)I"⟩ yX0_weigh wsX0_weigh) := goodIn_app (goodIn_of _ (by decide +kernel)) ggX5_weightOf_X0_weigh
set_option maxRecDepth 20000 in
theorem ggX5_weightOf_X1_weigh : GoodIn wsX5_weightOf wsX1_weigh := goodIn_r _ [11] (by decide +kernel) (by decide +kernel)
set_option maxRecDepth 20000 in
theorem gX5_weightOf_X1_weigh : GoodIn wsX5_weightOf (wsV RX5 75 RX1 yX1_weigh wsX1_weigh) := goodIn_app (goodIn_of _ (by decide +kernel)) ggX5_weightOf_X1_weigh
set_option maxRecDepth 20000 in
theorem ggX5_weightOf_X3_weigh : GoodIn wsX5_weightOf wsX3_weigh := goodIn_r _ [19] (by decide +kernel) (by decide +kernel)
set_option maxRecDepth 20000 in
theorem gX5_weightOf_X3_weigh_u75X3 : GoodIn wsX5_weightOf (va_wsO RX5 75 RX3 "DebtLamps$Person" ⟨"DebtLamps$Person", "weigh", "(I)I"⟩ yX3_weigh wsX3_weigh) := goodIn_app (goodIn_of _ (by decide +kernel)) ggX5_weightOf_X3_weigh
theorem dX5_weightOf_0 : decode cX5_weightOf 0 = .ok (.aload_n 0, 1) := by decide +kernel
theorem dX5_weightOf_1 : decode cX5_weightOf 1 = .ok (.getfield 18, 3) := by decide +kernel
theorem dX5_weightOf_4 : decode cX5_weightOf 4 = .ok (.aload_n 0, 1) := by decide +kernel
theorem dX5_weightOf_5 : decode cX5_weightOf 5 = .ok (.getfield 24, 3) := by decide +kernel
theorem dX5_weightOf_8 : decode cX5_weightOf 8 = .ok (.iload_n 1, 1) := by decide +kernel
theorem dX5_weightOf_9 : decode cX5_weightOf 9 = .ok (.iaload, 1) := by decide +kernel
theorem dX5_weightOf_10 : decode cX5_weightOf 10 = .ok (.aaload, 1) := by decide +kernel
theorem dX5_weightOf_11 : decode cX5_weightOf 11 = .ok (.aload_n 0, 1) := by decide +kernel
theorem dX5_weightOf_12 : decode cX5_weightOf 12 = .ok (.getfield 30, 3) := by decide +kernel
theorem dX5_weightOf_15 : decode cX5_weightOf 15 = .ok (.iload_n 1, 1) := by decide +kernel
theorem dX5_weightOf_16 : decode cX5_weightOf 16 = .ok (.aaload, 1) := by decide +kernel
theorem dX5_weightOf_17 : decode cX5_weightOf 17 = .ok (.iload_n 2, 1) := by decide +kernel
theorem dX5_weightOf_18 : decode cX5_weightOf 18 = .ok (.iaload, 1) := by decide +kernel
theorem dX5_weightOf_19 : decode cX5_weightOf 19 = .ok (.invokevirtual 75, 3) := by decide +kernel
theorem dX5_weightOf_22 : decode cX5_weightOf 22 = .ok (.ireturn, 1) := by decide +kernel
theorem dX5_owingTo_0 : decode cX5_owingTo 0 = .ok (.iconst 0, 1) := by decide +kernel
theorem dX5_owingTo_1 : decode cX5_owingTo 1 = .ok (.istore_n 2, 1) := by decide +kernel
theorem dX5_owingTo_2 : decode cX5_owingTo 2 = .ok (.iconst 0, 1) := by decide +kernel
theorem dX5_owingTo_3 : decode cX5_owingTo 3 = .ok (.istore_n 3, 1) := by decide +kernel
theorem dX5_owingTo_4 : decode cX5_owingTo 4 = .ok (.iload_n 3, 1) := by decide +kernel
theorem dX5_owingTo_5 : decode cX5_owingTo 5 = .ok (.aload_n 0, 1) := by decide +kernel
theorem dX5_owingTo_6 : decode cX5_owingTo 6 = .ok (.getfield 40, 3) := by decide +kernel
theorem dX5_owingTo_9 : decode cX5_owingTo 9 = .ok (.if_icmp .ge 26, 3) := by decide +kernel
theorem dX5_owingTo_12 : decode cX5_owingTo 12 = .ok (.aload_n 0, 1) := by decide +kernel
theorem dX5_owingTo_13 : decode cX5_owingTo 13 = .ok (.getfield 30, 3) := by decide +kernel
theorem dX5_owingTo_16 : decode cX5_owingTo 16 = .ok (.iload_n 3, 1) := by decide +kernel
theorem dX5_owingTo_17 : decode cX5_owingTo 17 = .ok (.aaload, 1) := by decide +kernel
theorem dX5_owingTo_18 : decode cX5_owingTo 18 = .ok (.iload_n 1, 1) := by decide +kernel
theorem dX5_owingTo_19 : decode cX5_owingTo 19 = .ok (.iaload, 1) := by decide +kernel
theorem dX5_owingTo_20 : decode cX5_owingTo 20 = .ok (.ifCond .le 9, 3) := by decide +kernel
theorem dX5_owingTo_23 : decode cX5_owingTo 23 = .ok (.iload_n 2, 1) := by decide +kernel
theorem dX5_owingTo_24 : decode cX5_owingTo 24 = .ok (.iconst 1, 1) := by decide +kernel
theorem dX5_owingTo_25 : decode cX5_owingTo 25 = .ok (.iload_n 3, 1) := by decide +kernel
theorem dX5_owingTo_26 : decode cX5_owingTo 26 = .ok (.ishl, 1) := by decide +kernel
theorem dX5_owingTo_27 : decode cX5_owingTo 27 = .ok (.ior, 1) := by decide +kernel
theorem dX5_owingTo_28 : decode cX5_owingTo 28 = .ok (.istore_n 2, 1) := by decide +kernel
theorem dX5_owingTo_29 : decode cX5_owingTo 29 = .ok (.iinc 3 1, 3) := by decide +kernel
theorem dX5_owingTo_32 : decode cX5_owingTo 32 = .ok (.goto (-28), 3) := by decide +kernel
theorem dX5_owingTo_35 : decode cX5_owingTo 35 = .ok (.iload_n 2, 1) := by decide +kernel
theorem dX5_owingTo_36 : decode cX5_owingTo 36 = .ok (.ireturn, 1) := by decide +kernel
set_option maxRecDepth 20000 in
theorem ggX5_lighterAmong_X5_weightOf : GoodIn wsX5_lighterAmong wsX5_weightOf := goodIn_r _ [6, 7, 8, 9, 10, 11, 12, 13, 14, 15, 16, 17, 18, 19, 20, 21, 22, 23, 24, 25, 26, 27, 28, 29, 30, 31, 32] (by decide +kernel) (by decide +kernel)
set_option maxRecDepth 20000 in
theorem gX5_lighterAmong_X5_weightOf : GoodIn wsX5_lighterAmong (wsV RX5 78 RX5 yX5_weightOf wsX5_weightOf) := goodIn_app (goodIn_of _ (by decide +kernel)) ggX5_lighterAmong_X5_weightOf
theorem dX5_lighterAmong_0 : decode cX5_lighterAmong 0 = .ok (.bipush (-9), 2) := by decide +kernel
theorem dX5_lighterAmong_2 : decode cX5_lighterAmong 2 = .ok (.istore_n 3, 1) := by decide +kernel
theorem dX5_lighterAmong_3 : decode cX5_lighterAmong 3 = .ok (.iconst 0, 1) := by decide +kernel
theorem dX5_lighterAmong_4 : decode cX5_lighterAmong 4 = .ok (.istore 4, 2) := by decide +kernel
theorem dX5_lighterAmong_6 : decode cX5_lighterAmong 6 = .ok (.iconst 0, 1) := by decide +kernel
theorem dX5_lighterAmong_7 : decode cX5_lighterAmong 7 = .ok (.istore 5, 2) := by decide +kernel
theorem dX5_lighterAmong_9 : decode cX5_lighterAmong 9 = .ok (.iload 5, 2) := by decide +kernel
theorem dX5_lighterAmong_11 : decode cX5_lighterAmong 11 = .ok (.aload_n 0, 1) := by decide +kernel
theorem dX5_lighterAmong_12 : decode cX5_lighterAmong 12 = .ok (.getfield 40, 3) := by decide +kernel
theorem dX5_lighterAmong_15 : decode cX5_lighterAmong 15 = .ok (.if_icmp .ge 45, 3) := by decide +kernel
theorem dX5_lighterAmong_18 : decode cX5_lighterAmong 18 = .ok (.iload_n 2, 1) := by decide +kernel
theorem dX5_lighterAmong_19 : decode cX5_lighterAmong 19 = .ok (.iload 5, 2) := by decide +kernel
theorem dX5_lighterAmong_21 : decode cX5_lighterAmong 21 = .ok (.ishr, 1) := by decide +kernel
theorem dX5_lighterAmong_22 : decode cX5_lighterAmong 22 = .ok (.iconst 1, 1) := by decide +kernel
theorem dX5_lighterAmong_23 : decode cX5_lighterAmong 23 = .ok (.iand, 1) := by decide +kernel
theorem dX5_lighterAmong_24 : decode cX5_lighterAmong 24 = .ok (.iconst 1, 1) := by decide +kernel
theorem dX5_lighterAmong_25 : decode cX5_lighterAmong 25 = .ok (.if_icmp .ne 6, 3) := by decide +kernel
theorem dX5_lighterAmong_28 : decode cX5_lighterAmong 28 = .ok (.goto 26, 3) := by decide +kernel
theorem dX5_lighterAmong_31 : decode cX5_lighterAmong 31 = .ok (.aload_n 0, 1) := by decide +kernel
theorem dX5_lighterAmong_32 : decode cX5_lighterAmong 32 = .ok (.iload 5, 2) := by decide +kernel
theorem dX5_lighterAmong_34 : decode cX5_lighterAmong 34 = .ok (.iload_n 1, 1) := by decide +kernel
theorem dX5_lighterAmong_35 : decode cX5_lighterAmong 35 = .ok (.invokevirtual 78, 3) := by decide +kernel
theorem dX5_lighterAmong_38 : decode cX5_lighterAmong 38 = .ok (.istore 6, 2) := by decide +kernel
theorem dX5_lighterAmong_40 : decode cX5_lighterAmong 40 = .ok (.iload 6, 2) := by decide +kernel
theorem dX5_lighterAmong_42 : decode cX5_lighterAmong 42 = .ok (.iload 4, 2) := by decide +kernel
theorem dX5_lighterAmong_44 : decode cX5_lighterAmong 44 = .ok (.if_icmp .le 10, 3) := by decide +kernel
theorem dX5_lighterAmong_47 : decode cX5_lighterAmong 47 = .ok (.iload 6, 2) := by decide +kernel
theorem dX5_lighterAmong_49 : decode cX5_lighterAmong 49 = .ok (.istore 4, 2) := by decide +kernel
theorem dX5_lighterAmong_51 : decode cX5_lighterAmong 51 = .ok (.iload 5, 2) := by decide +kernel
theorem dX5_lighterAmong_53 : decode cX5_lighterAmong 53 = .ok (.istore_n 3, 1) := by decide +kernel
theorem dX5_lighterAmong_54 : decode cX5_lighterAmong 54 = .ok (.iinc 5 1, 3) := by decide +kernel
theorem dX5_lighterAmong_57 : decode cX5_lighterAmong 57 = .ok (.goto (-48), 3) := by decide +kernel
theorem dX5_lighterAmong_60 : decode cX5_lighterAmong 60 = .ok (.iload_n 3, 1) := by decide +kernel
theorem dX5_lighterAmong_61 : decode cX5_lighterAmong 61 = .ok (.ireturn, 1) := by decide +kernel
set_option maxRecDepth 20000 in
theorem ggX5_litLamps_X5_lighterAmong : GoodIn wsX5_litLamps wsX5_lighterAmong := goodIn_r _ [6, 1, 7, 8, 9, 5, 10, 11, 12, 13, 14, 15, 16, 17, 18, 19, 20, 21, 22, 23, 24, 25, 26, 27, 28, 29, 30, 31, 32, 33, 34, 35, 36] (by decide +kernel) (by decide +kernel)
set_option maxRecDepth 20000 in
theorem gX5_litLamps_X5_lighterAmong : GoodIn wsX5_litLamps (wsV RX5 82 RX5 yX5_lighterAmong wsX5_lighterAmong) := goodIn_app (goodIn_of _ (by decide +kernel)) ggX5_litLamps_X5_lighterAmong
theorem dX5_litLamps_0 : decode cX5_litLamps 0 = .ok (.iconst 0, 1) := by decide +kernel
theorem dX5_litLamps_1 : decode cX5_litLamps 1 = .ok (.istore_n 1, 1) := by decide +kernel
theorem dX5_litLamps_2 : decode cX5_litLamps 2 = .ok (.iconst 0, 1) := by decide +kernel
theorem dX5_litLamps_3 : decode cX5_litLamps 3 = .ok (.istore_n 2, 1) := by decide +kernel
theorem dX5_litLamps_4 : decode cX5_litLamps 4 = .ok (.iload_n 2, 1) := by decide +kernel
theorem dX5_litLamps_5 : decode cX5_litLamps 5 = .ok (.aload_n 0, 1) := by decide +kernel
theorem dX5_litLamps_6 : decode cX5_litLamps 6 = .ok (.getfield 40, 3) := by decide +kernel
theorem dX5_litLamps_9 : decode cX5_litLamps 9 = .ok (.if_icmp .ge 26, 3) := by decide +kernel
theorem dX5_litLamps_12 : decode cX5_litLamps 12 = .ok (.aload_n 0, 1) := by decide +kernel
theorem dX5_litLamps_13 : decode cX5_litLamps 13 = .ok (.iload_n 2, 1) := by decide +kernel
theorem dX5_litLamps_14 : decode cX5_litLamps 14 = .ok (.iconst 0, 1) := by decide +kernel
theorem dX5_litLamps_15 : decode cX5_litLamps 15 = .ok (.invokevirtual 82, 3) := by decide +kernel
theorem dX5_litLamps_18 : decode cX5_litLamps 18 = .ok (.bipush (-9), 2) := by decide +kernel
theorem dX5_litLamps_20 : decode cX5_litLamps 20 = .ok (.if_icmp .eq 9, 3) := by decide +kernel
theorem dX5_litLamps_23 : decode cX5_litLamps 23 = .ok (.iload_n 1, 1) := by decide +kernel
theorem dX5_litLamps_24 : decode cX5_litLamps 24 = .ok (.iconst 1, 1) := by decide +kernel
theorem dX5_litLamps_25 : decode cX5_litLamps 25 = .ok (.iload_n 2, 1) := by decide +kernel
theorem dX5_litLamps_26 : decode cX5_litLamps 26 = .ok (.ishl, 1) := by decide +kernel
theorem dX5_litLamps_27 : decode cX5_litLamps 27 = .ok (.ior, 1) := by decide +kernel
theorem dX5_litLamps_28 : decode cX5_litLamps 28 = .ok (.istore_n 1, 1) := by decide +kernel
theorem dX5_litLamps_29 : decode cX5_litLamps 29 = .ok (.iinc 2 1, 3) := by decide +kernel
theorem dX5_litLamps_32 : decode cX5_litLamps 32 = .ok (.goto (-28), 3) := by decide +kernel
theorem dX5_litLamps_35 : decode cX5_litLamps 35 = .ok (.iload_n 1, 1) := by decide +kernel
theorem dX5_litLamps_36 : decode cX5_litLamps 36 = .ok (.ireturn, 1) := by decide +kernel
set_option maxRecDepth 20000 in
theorem ggX5_roundOf_X5_findLighters : GoodIn wsX5_roundOf wsX5_findLighters := goodIn_r _ [5, 6, 7, 8, 9, 10, 4, 11, 12, 13, 14, 15, 16, 17, 18, 19, 20, 21, 22, 23, 24, 25, 26, 27, 28, 29, 30, 31, 32, 33, 34, 39, 40, 41, 42, 43, 44, 45] (by decide +kernel) (by decide +kernel)
set_option maxRecDepth 20000 in
theorem gX5_roundOf_X5_findLighters : GoodIn wsX5_roundOf (wsV RX5 85 RX5 yX5_findLighters wsX5_findLighters) := goodIn_app (goodIn_of _ (by decide +kernel)) ggX5_roundOf_X5_findLighters
set_option maxRecDepth 20000 in
theorem ggX5_roundOf_X5_roundByLighters : GoodIn wsX5_roundOf wsX5_roundByLighters := goodIn_r _ [38, 6, 7, 39, 40, 41, 42, 43, 44, 45] (by decide +kernel) (by decide +kernel)
set_option maxRecDepth 20000 in
theorem gX5_roundOf_X5_roundByLighters : GoodIn wsX5_roundOf (wsV RX5 88 RX5 yX5_roundByLighters wsX5_roundByLighters) := goodIn_app (goodIn_of _ (by decide +kernel)) ggX5_roundOf_X5_roundByLighters
theorem dX5_roundOf_0 : decode cX5_roundOf 0 = .ok (.aload_n 0, 1) := by decide +kernel
theorem dX5_roundOf_1 : decode cX5_roundOf 1 = .ok (.invokevirtual 85, 3) := by decide +kernel
theorem dX5_roundOf_4 : decode cX5_roundOf 4 = .ok (.aload_n 0, 1) := by decide +kernel
theorem dX5_roundOf_5 : decode cX5_roundOf 5 = .ok (.iload_n 1, 1) := by decide +kernel
theorem dX5_roundOf_6 : decode cX5_roundOf 6 = .ok (.invokevirtual 88, 3) := by decide +kernel
theorem dX5_roundOf_9 : decode cX5_roundOf 9 = .ok (.ireturn, 1) := by decide +kernel
set_option maxRecDepth 20000 in
theorem ggX5_stepsOf_X5_roundOf : GoodIn wsX5_stepsOf wsX5_roundOf := goodIn_r _ [5, 6, 7, 8, 4, 9, 10, 11, 12, 13, 14, 15, 16, 17, 18, 19, 20, 21, 22, 23, 24, 25, 26, 27, 28, 29, 30, 31, 32, 33, 34, 35, 36, 37, 38, 39, 40, 41, 42, 53, 54, 55, 56, 57, 58, 59] (by decide +kernel) (by decide +kernel)
set_option maxRecDepth 20000 in
theorem gX5_stepsOf_X5_roundOf : GoodIn wsX5_stepsOf (wsV RX5 91 RX5 yX5_roundOf wsX5_roundOf) := goodIn_app (goodIn_of _ (by decide +kernel)) ggX5_stepsOf_X5_roundOf
set_option maxRecDepth 20000 in
theorem ggX5_stepsOf_X5_fewestSteps : GoodIn wsX5_stepsOf wsX5_fewestSteps := goodIn_r _ [45, 46, 47, 48, 49, 50, 51, 52] (by decide +kernel) (by decide +kernel)
set_option maxRecDepth 20000 in
theorem gX5_stepsOf_X5_fewestSteps : GoodIn wsX5_stepsOf (va_wsS RX5 94 yX5_fewestSteps wsX5_fewestSteps) := goodIn_app (goodIn_of _ (by decide +kernel)) ggX5_stepsOf_X5_fewestSteps
theorem dX5_stepsOf_0 : decode cX5_stepsOf 0 = .ok (.iload_n 1, 1) := by decide +kernel
theorem dX5_stepsOf_1 : decode cX5_stepsOf 1 = .ok (.aload_n 0, 1) := by decide +kernel
theorem dX5_stepsOf_2 : decode cX5_stepsOf 2 = .ok (.iload_n 1, 1) := by decide +kernel
theorem dX5_stepsOf_3 : decode cX5_stepsOf 3 = .ok (.invokevirtual 91, 3) := by decide +kernel
theorem dX5_stepsOf_6 : decode cX5_stepsOf 6 = .ok (.invokestatic 94, 3) := by decide +kernel
theorem dX5_stepsOf_9 : decode cX5_stepsOf 9 = .ok (.ireturn, 1) := by decide +kernel
set_option maxRecDepth 20000 in
theorem ggX5_passDusk_X5_findLighters : GoodIn wsX5_passDusk wsX5_findLighters := goodIn_r _ [17, 1, 4, 18, 19, 20, 16, 21, 22, 23, 24, 25, 26, 27, 5, 28, 29, 30, 31, 32, 33, 34, 35, 36, 37, 38, 39, 40, 41, 42, 43, 51, 52, 53, 54, 55, 56, 57] (by decide +kernel) (by decide +kernel)
set_option maxRecDepth 20000 in
theorem gX5_passDusk_X5_findLighters : GoodIn wsX5_passDusk (wsV RX5 85 RX5 yX5_findLighters wsX5_findLighters) := goodIn_app (goodIn_of _ (by decide +kernel)) ggX5_passDusk_X5_findLighters
set_option maxRecDepth 20000 in
theorem ggX5_passDusk_X5_roundByLighters : GoodIn wsX5_passDusk wsX5_roundByLighters := goodIn_r _ [47, 1, 4, 51, 52, 53, 54, 55, 56, 57] (by decide +kernel) (by decide +kernel)
set_option maxRecDepth 20000 in
theorem gX5_passDusk_X5_roundByLighters : GoodIn wsX5_passDusk (wsV RX5 88 RX5 yX5_roundByLighters wsX5_roundByLighters) := goodIn_app (goodIn_of _ (by decide +kernel)) ggX5_passDusk_X5_roundByLighters
set_option maxRecDepth 20000 in
theorem ggX5_passDusk_X5_fewestSteps : GoodIn wsX5_passDusk wsX5_fewestSteps := goodIn_r _ [50, 6, 7, 8, 9, 10, 11, 12] (by decide +kernel) (by decide +kernel)
set_option maxRecDepth 20000 in
theorem gX5_passDusk_X5_fewestSteps : GoodIn wsX5_passDusk (va_wsS RX5 94 yX5_fewestSteps wsX5_fewestSteps) := goodIn_app (goodIn_of _ (by decide +kernel)) ggX5_passDusk_X5_fewestSteps
theorem dX5_passDusk_0 : decode cX5_passDusk 0 = .ok (.aload_n 0, 1) := by decide +kernel
theorem dX5_passDusk_1 : decode cX5_passDusk 1 = .ok (.invokevirtual 85, 3) := by decide +kernel
theorem dX5_passDusk_4 : decode cX5_passDusk 4 = .ok (.iconst 0, 1) := by decide +kernel
theorem dX5_passDusk_5 : decode cX5_passDusk 5 = .ok (.istore_n 1, 1) := by decide +kernel
theorem dX5_passDusk_6 : decode cX5_passDusk 6 = .ok (.iload_n 1, 1) := by decide +kernel
theorem dX5_passDusk_7 : decode cX5_passDusk 7 = .ok (.aload_n 0, 1) := by decide +kernel
theorem dX5_passDusk_8 : decode cX5_passDusk 8 = .ok (.getfield 40, 3) := by decide +kernel
theorem dX5_passDusk_11 : decode cX5_passDusk 11 = .ok (.if_icmp .ge 36, 3) := by decide +kernel
theorem dX5_passDusk_14 : decode cX5_passDusk 14 = .ok (.aload_n 0, 1) := by decide +kernel
theorem dX5_passDusk_15 : decode cX5_passDusk 15 = .ok (.getfield 36, 3) := by decide +kernel
theorem dX5_passDusk_18 : decode cX5_passDusk 18 = .ok (.iload_n 1, 1) := by decide +kernel
theorem dX5_passDusk_19 : decode cX5_passDusk 19 = .ok (.iload_n 1, 1) := by decide +kernel
theorem dX5_passDusk_20 : decode cX5_passDusk 20 = .ok (.aload_n 0, 1) := by decide +kernel
theorem dX5_passDusk_21 : decode cX5_passDusk 21 = .ok (.iload_n 1, 1) := by decide +kernel
theorem dX5_passDusk_22 : decode cX5_passDusk 22 = .ok (.invokevirtual 88, 3) := by decide +kernel
theorem dX5_passDusk_25 : decode cX5_passDusk 25 = .ok (.invokestatic 94, 3) := by decide +kernel
theorem dX5_passDusk_28 : decode cX5_passDusk 28 = .ok (.aload_n 0, 1) := by decide +kernel
theorem dX5_passDusk_29 : decode cX5_passDusk 29 = .ok (.getfield 44, 3) := by decide +kernel
theorem dX5_passDusk_32 : decode cX5_passDusk 32 = .ok (.if_icmp .gt 7, 3) := by decide +kernel
theorem dX5_passDusk_35 : decode cX5_passDusk 35 = .ok (.iconst 1, 1) := by decide +kernel
theorem dX5_passDusk_36 : decode cX5_passDusk 36 = .ok (.goto 4, 3) := by decide +kernel
theorem dX5_passDusk_39 : decode cX5_passDusk 39 = .ok (.iconst 0, 1) := by decide +kernel
theorem dX5_passDusk_40 : decode cX5_passDusk 40 = .ok (.bastore, 1) := by decide +kernel
theorem dX5_passDusk_41 : decode cX5_passDusk 41 = .ok (.iinc 1 1, 3) := by decide +kernel
theorem dX5_passDusk_44 : decode cX5_passDusk 44 = .ok (.goto (-38), 3) := by decide +kernel
theorem dX5_passDusk_47 : decode cX5_passDusk 47 = .ok (.iconst 0, 1) := by decide +kernel
theorem dX5_passDusk_48 : decode cX5_passDusk 48 = .ok (.istore_n 1, 1) := by decide +kernel
theorem dX5_passDusk_49 : decode cX5_passDusk 49 = .ok (.iload_n 1, 1) := by decide +kernel
theorem dX5_passDusk_50 : decode cX5_passDusk 50 = .ok (.aload_n 0, 1) := by decide +kernel
theorem dX5_passDusk_51 : decode cX5_passDusk 51 = .ok (.getfield 40, 3) := by decide +kernel
theorem dX5_passDusk_54 : decode cX5_passDusk 54 = .ok (.if_icmp .ge 69, 3) := by decide +kernel
theorem dX5_passDusk_57 : decode cX5_passDusk 57 = .ok (.aload_n 0, 1) := by decide +kernel
theorem dX5_passDusk_58 : decode cX5_passDusk 58 = .ok (.getfield 33, 3) := by decide +kernel
theorem dX5_passDusk_61 : decode cX5_passDusk 61 = .ok (.iload_n 1, 1) := by decide +kernel
theorem dX5_passDusk_62 : decode cX5_passDusk 62 = .ok (.iaload, 1) := by decide +kernel
theorem dX5_passDusk_63 : decode cX5_passDusk 63 = .ok (.istore_n 2, 1) := by decide +kernel
theorem dX5_passDusk_64 : decode cX5_passDusk 64 = .ok (.iload_n 2, 1) := by decide +kernel
theorem dX5_passDusk_65 : decode cX5_passDusk 65 = .ok (.bipush (-9), 2) := by decide +kernel
theorem dX5_passDusk_67 : decode cX5_passDusk 67 = .ok (.if_icmp .ne 6, 3) := by decide +kernel
theorem dX5_passDusk_70 : decode cX5_passDusk 70 = .ok (.goto 47, 3) := by decide +kernel
theorem dX5_passDusk_73 : decode cX5_passDusk 73 = .ok (.aload_n 0, 1) := by decide +kernel
theorem dX5_passDusk_74 : decode cX5_passDusk 74 = .ok (.getfield 30, 3) := by decide +kernel
theorem dX5_passDusk_77 : decode cX5_passDusk 77 = .ok (.iload_n 2, 1) := by decide +kernel
theorem dX5_passDusk_78 : decode cX5_passDusk 78 = .ok (.aaload, 1) := by decide +kernel
theorem dX5_passDusk_79 : decode cX5_passDusk 79 = .ok (.iload_n 1, 1) := by decide +kernel
theorem dX5_passDusk_80 : decode cX5_passDusk 80 = .ok (.iaload, 1) := by decide +kernel
theorem dX5_passDusk_81 : decode cX5_passDusk 81 = .ok (.istore_n 3, 1) := by decide +kernel
theorem dX5_passDusk_82 : decode cX5_passDusk 82 = .ok (.aload_n 0, 1) := by decide +kernel
theorem dX5_passDusk_83 : decode cX5_passDusk 83 = .ok (.getfield 30, 3) := by decide +kernel
theorem dX5_passDusk_86 : decode cX5_passDusk 86 = .ok (.iload_n 2, 1) := by decide +kernel
theorem dX5_passDusk_87 : decode cX5_passDusk 87 = .ok (.aaload, 1) := by decide +kernel
theorem dX5_passDusk_88 : decode cX5_passDusk 88 = .ok (.iload_n 1, 1) := by decide +kernel
theorem dX5_passDusk_89 : decode cX5_passDusk 89 = .ok (.aload_n 0, 1) := by decide +kernel
theorem dX5_passDusk_90 : decode cX5_passDusk 90 = .ok (.getfield 36, 3) := by decide +kernel
theorem dX5_passDusk_93 : decode cX5_passDusk 93 = .ok (.iload_n 2, 1) := by decide +kernel
theorem dX5_passDusk_94 : decode cX5_passDusk 94 = .ok (.baload, 1) := by decide +kernel
theorem dX5_passDusk_95 : decode cX5_passDusk 95 = .ok (.ifCond .eq 13, 3) := by decide +kernel
theorem dX5_passDusk_98 : decode cX5_passDusk 98 = .ok (.iconst 0, 1) := by decide +kernel
theorem dX5_passDusk_99 : decode cX5_passDusk 99 = .ok (.iload_n 3, 1) := by decide +kernel
theorem dX5_passDusk_100 : decode cX5_passDusk 100 = .ok (.iconst 1, 1) := by decide +kernel
theorem dX5_passDusk_101 : decode cX5_passDusk 101 = .ok (.isub, 1) := by decide +kernel
theorem dX5_passDusk_102 : decode cX5_passDusk 102 = .ok (.invokestatic 97, 3) := by decide +kernel
theorem dX5_passDusk_105 : decode cX5_passDusk 105 = .ok (.goto 11, 3) := by decide +kernel
theorem dX5_passDusk_108 : decode cX5_passDusk 108 = .ok (.bipush 9, 2) := by decide +kernel
theorem dX5_passDusk_110 : decode cX5_passDusk 110 = .ok (.iconst 2, 1) := by decide +kernel
theorem dX5_passDusk_111 : decode cX5_passDusk 111 = .ok (.iload_n 3, 1) := by decide +kernel
theorem dX5_passDusk_112 : decode cX5_passDusk 112 = .ok (.imul, 1) := by decide +kernel
theorem dX5_passDusk_113 : decode cX5_passDusk 113 = .ok (.invokestatic 102, 3) := by decide +kernel
theorem dX5_passDusk_116 : decode cX5_passDusk 116 = .ok (.iastore, 1) := by decide +kernel
theorem dX5_passDusk_117 : decode cX5_passDusk 117 = .ok (.iinc 1 1, 3) := by decide +kernel
theorem dX5_passDusk_120 : decode cX5_passDusk 120 = .ok (.goto (-71), 3) := by decide +kernel
theorem dX5_passDusk_123 : decode cX5_passDusk 123 = .ok (.return_, 1) := by decide +kernel
set_option maxRecDepth 20000 in
theorem ggX5_payTillLighterOfNone_X5_lighterAmong : GoodIn wsX5_payTillLighterOfNone wsX5_lighterAmong := goodIn_r _ [7, 1, 8, 9, 10, 6, 11, 12, 13, 2, 14, 15, 16, 17, 18, 19, 20, 21, 22, 23, 24, 25, 26, 27, 28, 29, 30, 31, 32, 33, 34, 35, 36] (by decide +kernel) (by decide +kernel)
set_option maxRecDepth 20000 in
theorem gX5_payTillLighterOfNone_X5_lighterAmong : GoodIn wsX5_payTillLighterOfNone (wsV RX5 82 RX5 yX5_lighterAmong wsX5_lighterAmong) := goodIn_app (goodIn_of _ (by decide +kernel)) ggX5_payTillLighterOfNone_X5_lighterAmong
theorem dX5_payTillLighterOfNone_0 : decode cX5_payTillLighterOfNone 0 = .ok (.iconst 0, 1) := by decide +kernel
theorem dX5_payTillLighterOfNone_1 : decode cX5_payTillLighterOfNone 1 = .ok (.istore_n 2, 1) := by decide +kernel
theorem dX5_payTillLighterOfNone_2 : decode cX5_payTillLighterOfNone 2 = .ok (.iconst 0, 1) := by decide +kernel
theorem dX5_payTillLighterOfNone_3 : decode cX5_payTillLighterOfNone 3 = .ok (.istore_n 3, 1) := by decide +kernel
theorem dX5_payTillLighterOfNone_4 : decode cX5_payTillLighterOfNone 4 = .ok (.iload_n 3, 1) := by decide +kernel
theorem dX5_payTillLighterOfNone_5 : decode cX5_payTillLighterOfNone 5 = .ok (.aload_n 0, 1) := by decide +kernel
theorem dX5_payTillLighterOfNone_6 : decode cX5_payTillLighterOfNone 6 = .ok (.getfield 40, 3) := by decide +kernel
theorem dX5_payTillLighterOfNone_9 : decode cX5_payTillLighterOfNone 9 = .ok (.if_icmp .ge 55, 3) := by decide +kernel
theorem dX5_payTillLighterOfNone_12 : decode cX5_payTillLighterOfNone 12 = .ok (.aload_n 0, 1) := by decide +kernel
theorem dX5_payTillLighterOfNone_13 : decode cX5_payTillLighterOfNone 13 = .ok (.getfield 30, 3) := by decide +kernel
theorem dX5_payTillLighterOfNone_16 : decode cX5_payTillLighterOfNone 16 = .ok (.iload_n 1, 1) := by decide +kernel
theorem dX5_payTillLighterOfNone_17 : decode cX5_payTillLighterOfNone 17 = .ok (.aaload, 1) := by decide +kernel
theorem dX5_payTillLighterOfNone_18 : decode cX5_payTillLighterOfNone 18 = .ok (.iload_n 3, 1) := by decide +kernel
theorem dX5_payTillLighterOfNone_19 : decode cX5_payTillLighterOfNone 19 = .ok (.iaload, 1) := by decide +kernel
theorem dX5_payTillLighterOfNone_20 : decode cX5_payTillLighterOfNone 20 = .ok (.istore 4, 2) := by decide +kernel
theorem dX5_payTillLighterOfNone_22 : decode cX5_payTillLighterOfNone 22 = .ok (.iload 4, 2) := by decide +kernel
theorem dX5_payTillLighterOfNone_24 : decode cX5_payTillLighterOfNone 24 = .ok (.ifCond .le 34, 3) := by decide +kernel
theorem dX5_payTillLighterOfNone_27 : decode cX5_payTillLighterOfNone 27 = .ok (.aload_n 0, 1) := by decide +kernel
theorem dX5_payTillLighterOfNone_28 : decode cX5_payTillLighterOfNone 28 = .ok (.iload_n 3, 1) := by decide +kernel
theorem dX5_payTillLighterOfNone_29 : decode cX5_payTillLighterOfNone 29 = .ok (.iconst 0, 1) := by decide +kernel
theorem dX5_payTillLighterOfNone_30 : decode cX5_payTillLighterOfNone 30 = .ok (.invokevirtual 82, 3) := by decide +kernel
theorem dX5_payTillLighterOfNone_33 : decode cX5_payTillLighterOfNone 33 = .ok (.iload_n 1, 1) := by decide +kernel
theorem dX5_payTillLighterOfNone_34 : decode cX5_payTillLighterOfNone 34 = .ok (.if_icmp .ne 24, 3) := by decide +kernel
theorem dX5_payTillLighterOfNone_37 : decode cX5_payTillLighterOfNone 37 = .ok (.aload_n 0, 1) := by decide +kernel
theorem dX5_payTillLighterOfNone_38 : decode cX5_payTillLighterOfNone 38 = .ok (.getfield 30, 3) := by decide +kernel
theorem dX5_payTillLighterOfNone_41 : decode cX5_payTillLighterOfNone 41 = .ok (.iload_n 1, 1) := by decide +kernel
theorem dX5_payTillLighterOfNone_42 : decode cX5_payTillLighterOfNone 42 = .ok (.aaload, 1) := by decide +kernel
theorem dX5_payTillLighterOfNone_43 : decode cX5_payTillLighterOfNone 43 = .ok (.iload_n 3, 1) := by decide +kernel
theorem dX5_payTillLighterOfNone_44 : decode cX5_payTillLighterOfNone 44 = .ok (.iload 4, 2) := by decide +kernel
theorem dX5_payTillLighterOfNone_46 : decode cX5_payTillLighterOfNone 46 = .ok (.iconst 1, 1) := by decide +kernel
theorem dX5_payTillLighterOfNone_47 : decode cX5_payTillLighterOfNone 47 = .ok (.isub, 1) := by decide +kernel
theorem dX5_payTillLighterOfNone_48 : decode cX5_payTillLighterOfNone 48 = .ok (.iastore, 1) := by decide +kernel
theorem dX5_payTillLighterOfNone_49 : decode cX5_payTillLighterOfNone 49 = .ok (.iinc 2 1, 3) := by decide +kernel
theorem dX5_payTillLighterOfNone_52 : decode cX5_payTillLighterOfNone 52 = .ok (.iinc 4 (-1), 3) := by decide +kernel
theorem dX5_payTillLighterOfNone_55 : decode cX5_payTillLighterOfNone 55 = .ok (.goto (-33), 3) := by decide +kernel
theorem dX5_payTillLighterOfNone_58 : decode cX5_payTillLighterOfNone 58 = .ok (.iinc 3 1, 3) := by decide +kernel
theorem dX5_payTillLighterOfNone_61 : decode cX5_payTillLighterOfNone 61 = .ok (.goto (-57), 3) := by decide +kernel
theorem dX5_payTillLighterOfNone_64 : decode cX5_payTillLighterOfNone 64 = .ok (.iload_n 2, 1) := by decide +kernel
theorem dX5_payTillLighterOfNone_65 : decode cX5_payTillLighterOfNone 65 = .ok (.ireturn, 1) := by decide +kernel
set_option maxRecDepth 20000 in
theorem ggX5_findLighters_X5_lighterAmong : GoodIn wsX5_findLighters wsX5_lighterAmong := goodIn_r _ [7, 1, 8, 9, 10, 6, 11, 12, 13, 14, 15, 16, 17, 18, 19, 20, 21, 22, 23, 24, 25, 26, 27, 28, 29, 30, 31, 32, 33, 34, 35, 36, 37] (by decide +kernel) (by decide +kernel)
set_option maxRecDepth 20000 in
theorem gX5_findLighters_X5_lighterAmong : GoodIn wsX5_findLighters (wsV RX5 82 RX5 yX5_lighterAmong wsX5_lighterAmong) := goodIn_app (goodIn_of _ (by decide +kernel)) ggX5_findLighters_X5_lighterAmong
theorem dX5_findLighters_0 : decode cX5_findLighters 0 = .ok (.iconst 0, 1) := by decide +kernel
theorem dX5_findLighters_1 : decode cX5_findLighters 1 = .ok (.istore_n 1, 1) := by decide +kernel
theorem dX5_findLighters_2 : decode cX5_findLighters 2 = .ok (.iload_n 1, 1) := by decide +kernel
theorem dX5_findLighters_3 : decode cX5_findLighters 3 = .ok (.aload_n 0, 1) := by decide +kernel
theorem dX5_findLighters_4 : decode cX5_findLighters 4 = .ok (.getfield 40, 3) := by decide +kernel
theorem dX5_findLighters_7 : decode cX5_findLighters 7 = .ok (.if_icmp .ge 21, 3) := by decide +kernel
theorem dX5_findLighters_10 : decode cX5_findLighters 10 = .ok (.aload_n 0, 1) := by decide +kernel
theorem dX5_findLighters_11 : decode cX5_findLighters 11 = .ok (.getfield 33, 3) := by decide +kernel
theorem dX5_findLighters_14 : decode cX5_findLighters 14 = .ok (.iload_n 1, 1) := by decide +kernel
theorem dX5_findLighters_15 : decode cX5_findLighters 15 = .ok (.aload_n 0, 1) := by decide +kernel
theorem dX5_findLighters_16 : decode cX5_findLighters 16 = .ok (.iload_n 1, 1) := by decide +kernel
theorem dX5_findLighters_17 : decode cX5_findLighters 17 = .ok (.iconst 0, 1) := by decide +kernel
theorem dX5_findLighters_18 : decode cX5_findLighters 18 = .ok (.invokevirtual 82, 3) := by decide +kernel
theorem dX5_findLighters_21 : decode cX5_findLighters 21 = .ok (.iastore, 1) := by decide +kernel
theorem dX5_findLighters_22 : decode cX5_findLighters 22 = .ok (.iinc 1 1, 3) := by decide +kernel
theorem dX5_findLighters_25 : decode cX5_findLighters 25 = .ok (.goto (-23), 3) := by decide +kernel
theorem dX5_findLighters_28 : decode cX5_findLighters 28 = .ok (.return_, 1) := by decide +kernel
theorem dX5_roundByLighters_0 : decode cX5_roundByLighters 0 = .ok (.iconst 0, 1) := by decide +kernel
theorem dX5_roundByLighters_1 : decode cX5_roundByLighters 1 = .ok (.istore_n 2, 1) := by decide +kernel
theorem dX5_roundByLighters_2 : decode cX5_roundByLighters 2 = .ok (.iconst 0, 1) := by decide +kernel
theorem dX5_roundByLighters_3 : decode cX5_roundByLighters 3 = .ok (.istore_n 3, 1) := by decide +kernel
theorem dX5_roundByLighters_4 : decode cX5_roundByLighters 4 = .ok (.iload_n 3, 1) := by decide +kernel
theorem dX5_roundByLighters_5 : decode cX5_roundByLighters 5 = .ok (.aload_n 0, 1) := by decide +kernel
theorem dX5_roundByLighters_6 : decode cX5_roundByLighters 6 = .ok (.getfield 40, 3) := by decide +kernel
theorem dX5_roundByLighters_9 : decode cX5_roundByLighters 9 = .ok (.if_icmp .ge 25, 3) := by decide +kernel
theorem dX5_roundByLighters_12 : decode cX5_roundByLighters 12 = .ok (.aload_n 0, 1) := by decide +kernel
theorem dX5_roundByLighters_13 : decode cX5_roundByLighters 13 = .ok (.getfield 33, 3) := by decide +kernel
theorem dX5_roundByLighters_16 : decode cX5_roundByLighters 16 = .ok (.iload_n 3, 1) := by decide +kernel
theorem dX5_roundByLighters_17 : decode cX5_roundByLighters 17 = .ok (.iaload, 1) := by decide +kernel
theorem dX5_roundByLighters_18 : decode cX5_roundByLighters 18 = .ok (.iload_n 1, 1) := by decide +kernel
theorem dX5_roundByLighters_19 : decode cX5_roundByLighters 19 = .ok (.if_icmp .ne 9, 3) := by decide +kernel
theorem dX5_roundByLighters_22 : decode cX5_roundByLighters 22 = .ok (.iload_n 2, 1) := by decide +kernel
theorem dX5_roundByLighters_23 : decode cX5_roundByLighters 23 = .ok (.iconst 1, 1) := by decide +kernel
theorem dX5_roundByLighters_24 : decode cX5_roundByLighters 24 = .ok (.iload_n 3, 1) := by decide +kernel
theorem dX5_roundByLighters_25 : decode cX5_roundByLighters 25 = .ok (.ishl, 1) := by decide +kernel
theorem dX5_roundByLighters_26 : decode cX5_roundByLighters 26 = .ok (.ior, 1) := by decide +kernel
theorem dX5_roundByLighters_27 : decode cX5_roundByLighters 27 = .ok (.istore_n 2, 1) := by decide +kernel
theorem dX5_roundByLighters_28 : decode cX5_roundByLighters 28 = .ok (.iinc 3 1, 3) := by decide +kernel
theorem dX5_roundByLighters_31 : decode cX5_roundByLighters 31 = .ok (.goto (-27), 3) := by decide +kernel
theorem dX5_roundByLighters_34 : decode cX5_roundByLighters 34 = .ok (.iload_n 2, 1) := by decide +kernel
theorem dX5_roundByLighters_35 : decode cX5_roundByLighters 35 = .ok (.ireturn, 1) := by decide +kernel
theorem dX5_fewestSteps_0 : decode cX5_fewestSteps 0 = .ok (.iconst 0, 1) := by decide +kernel
theorem dX5_fewestSteps_1 : decode cX5_fewestSteps 1 = .ok (.istore_n 2, 1) := by decide +kernel
theorem dX5_fewestSteps_2 : decode cX5_fewestSteps 2 = .ok (.iconst 0, 1) := by decide +kernel
theorem dX5_fewestSteps_3 : decode cX5_fewestSteps 3 = .ok (.istore_n 3, 1) := by decide +kernel
theorem dX5_fewestSteps_4 : decode cX5_fewestSteps 4 = .ok (.iconst 0, 1) := by decide +kernel
theorem dX5_fewestSteps_5 : decode cX5_fewestSteps 5 = .ok (.istore 4, 2) := by decide +kernel
theorem dX5_fewestSteps_7 : decode cX5_fewestSteps 7 = .ok (.iload 4, 2) := by decide +kernel
theorem dX5_fewestSteps_9 : decode cX5_fewestSteps 9 = .ok (.bipush 6, 2) := by decide +kernel
theorem dX5_fewestSteps_11 : decode cX5_fewestSteps 11 = .ok (.if_icmp .ge 39, 3) := by decide +kernel
theorem dX5_fewestSteps_14 : decode cX5_fewestSteps 14 = .ok (.iload_n 1, 1) := by decide +kernel
theorem dX5_fewestSteps_15 : decode cX5_fewestSteps 15 = .ok (.iload 4, 2) := by decide +kernel
theorem dX5_fewestSteps_17 : decode cX5_fewestSteps 17 = .ok (.ishr, 1) := by decide +kernel
theorem dX5_fewestSteps_18 : decode cX5_fewestSteps 18 = .ok (.iconst 1, 1) := by decide +kernel
theorem dX5_fewestSteps_19 : decode cX5_fewestSteps 19 = .ok (.iand, 1) := by decide +kernel
theorem dX5_fewestSteps_20 : decode cX5_fewestSteps 20 = .ok (.ifCond .ne 6, 3) := by decide +kernel
theorem dX5_fewestSteps_23 : decode cX5_fewestSteps 23 = .ok (.goto 21, 3) := by decide +kernel
theorem dX5_fewestSteps_26 : decode cX5_fewestSteps 26 = .ok (.iload_n 2, 1) := by decide +kernel
theorem dX5_fewestSteps_27 : decode cX5_fewestSteps 27 = .ok (.iload_n 0, 1) := by decide +kernel
theorem dX5_fewestSteps_28 : decode cX5_fewestSteps 28 = .ok (.iload 4, 2) := by decide +kernel
theorem dX5_fewestSteps_30 : decode cX5_fewestSteps 30 = .ok (.isub, 1) := by decide +kernel
theorem dX5_fewestSteps_31 : decode cX5_fewestSteps 31 = .ok (.invokestatic 97, 3) := by decide +kernel
theorem dX5_fewestSteps_34 : decode cX5_fewestSteps 34 = .ok (.istore_n 2, 1) := by decide +kernel
theorem dX5_fewestSteps_35 : decode cX5_fewestSteps 35 = .ok (.iload_n 3, 1) := by decide +kernel
theorem dX5_fewestSteps_36 : decode cX5_fewestSteps 36 = .ok (.iload 4, 2) := by decide +kernel
theorem dX5_fewestSteps_38 : decode cX5_fewestSteps 38 = .ok (.iload_n 0, 1) := by decide +kernel
theorem dX5_fewestSteps_39 : decode cX5_fewestSteps 39 = .ok (.isub, 1) := by decide +kernel
theorem dX5_fewestSteps_40 : decode cX5_fewestSteps 40 = .ok (.invokestatic 97, 3) := by decide +kernel
theorem dX5_fewestSteps_43 : decode cX5_fewestSteps 43 = .ok (.istore_n 3, 1) := by decide +kernel
theorem dX5_fewestSteps_44 : decode cX5_fewestSteps 44 = .ok (.iinc 4 1, 3) := by decide +kernel
theorem dX5_fewestSteps_47 : decode cX5_fewestSteps 47 = .ok (.goto (-40), 3) := by decide +kernel
theorem dX5_fewestSteps_50 : decode cX5_fewestSteps 50 = .ok (.iload_n 2, 1) := by decide +kernel
theorem dX5_fewestSteps_51 : decode cX5_fewestSteps 51 = .ok (.iload_n 3, 1) := by decide +kernel
theorem dX5_fewestSteps_52 : decode cX5_fewestSteps 52 = .ok (.iadd, 1) := by decide +kernel
theorem dX5_fewestSteps_53 : decode cX5_fewestSteps 53 = .ok (.iload_n 2, 1) := by decide +kernel
theorem dX5_fewestSteps_54 : decode cX5_fewestSteps 54 = .ok (.iload_n 3, 1) := by decide +kernel
theorem dX5_fewestSteps_55 : decode cX5_fewestSteps 55 = .ok (.invokestatic 102, 3) := by decide +kernel
theorem dX5_fewestSteps_58 : decode cX5_fewestSteps 58 = .ok (.iadd, 1) := by decide +kernel
theorem dX5_fewestSteps_59 : decode cX5_fewestSteps 59 = .ok (.ireturn, 1) := by decide +kernel
theorem dX6_init_0 : decode cX6_init 0 = .ok (.aload_n 0, 1) := by decide +kernel
theorem dX6_init_1 : decode cX6_init 1 = .ok (.invokespecial 1, 3) := by decide +kernel
theorem dX6_init_4 : decode cX6_init 4 = .ok (.return_, 1) := by decide +kernel
theorem dX6_leave_0 : decode cX6_leave 0 = .ok (.aload_n 0, 1) := by decide +kernel
theorem dX6_leave_1 : decode cX6_leave 1 = .ok (.bipush 31, 2) := by decide +kernel
theorem dX6_leave_3 : decode cX6_leave 3 = .ok (.aload_n 0, 1) := by decide +kernel
theorem dX6_leave_4 : decode cX6_leave 4 = .ok (.getfield 7, 3) := by decide +kernel
theorem dX6_leave_7 : decode cX6_leave 7 = .ok (.imul, 1) := by decide +kernel
theorem dX6_leave_8 : decode cX6_leave 8 = .ok (.iload_n 1, 1) := by decide +kernel
theorem dX6_leave_9 : decode cX6_leave 9 = .ok (.iadd, 1) := by decide +kernel
theorem dX6_leave_10 : decode cX6_leave 10 = .ok (.putfield 7, 3) := by decide +kernel
theorem dX6_leave_13 : decode cX6_leave 13 = .ok (.return_, 1) := by decide +kernel
