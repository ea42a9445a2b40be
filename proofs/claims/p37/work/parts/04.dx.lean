theorem dX0_phaseOn_0 : decode cX0_phaseOn 0 = .ok (.iload_n 0, 1) := by decide +kernel
theorem dX0_phaseOn_1 : decode cX0_phaseOn 1 = .ok (.bipush 8, 2) := by decide +kernel
theorem dX0_phaseOn_3 : decode cX0_phaseOn 3 = .ok (.irem, 1) := by decide +kernel
theorem dX0_phaseOn_4 : decode cX0_phaseOn 4 = .ok (.ireturn, 1) := by decide +kernel
set_option maxRecDepth 20000 in
theorem ggX0_brightnessOn_X0_phaseOn : GoodIn wsX0_brightnessOn wsX0_phaseOn := goodIn_r _ [4] (by decide +kernel) (by decide +kernel)
set_option maxRecDepth 20000 in
theorem gX0_brightnessOn_X0_phaseOn : GoodIn wsX0_brightnessOn (va_wsS RX0 9 yX0_phaseOn wsX0_phaseOn) := goodIn_app (goodIn_of _ (by decide +kernel)) ggX0_brightnessOn_X0_phaseOn
theorem dX0_brightnessOn_0 : decode cX0_brightnessOn 0 = .ok (.iload_n 0, 1) := by decide +kernel
theorem dX0_brightnessOn_1 : decode cX0_brightnessOn 1 = .ok (.invokestatic 9, 3) := by decide +kernel
theorem dX0_brightnessOn_4 : decode cX0_brightnessOn 4 = .ok (.istore_n 1, 1) := by decide +kernel
theorem dX0_brightnessOn_5 : decode cX0_brightnessOn 5 = .ok (.iload_n 1, 1) := by decide +kernel
theorem dX0_brightnessOn_6 : decode cX0_brightnessOn 6 = .ok (.iconst 4, 1) := by decide +kernel
theorem dX0_brightnessOn_7 : decode cX0_brightnessOn 7 = .ok (.if_icmp .gt 7, 3) := by decide +kernel
theorem dX0_brightnessOn_10 : decode cX0_brightnessOn 10 = .ok (.iload_n 1, 1) := by decide +kernel
theorem dX0_brightnessOn_11 : decode cX0_brightnessOn 11 = .ok (.goto 7, 3) := by decide +kernel
theorem dX0_brightnessOn_14 : decode cX0_brightnessOn 14 = .ok (.bipush 8, 2) := by decide +kernel
theorem dX0_brightnessOn_16 : decode cX0_brightnessOn 16 = .ok (.iload_n 1, 1) := by decide +kernel
theorem dX0_brightnessOn_17 : decode cX0_brightnessOn 17 = .ok (.isub, 1) := by decide +kernel
theorem dX0_brightnessOn_18 : decode cX0_brightnessOn 18 = .ok (.ireturn, 1) := by decide +kernel
set_option maxRecDepth 20000 in
theorem ggX0_daysUntilFullFrom_X0_phaseOn : GoodIn wsX0_daysUntilFullFrom wsX0_phaseOn := goodIn_r _ [4] (by decide +kernel) (by decide +kernel)
set_option maxRecDepth 20000 in
theorem gX0_daysUntilFullFrom_X0_phaseOn : GoodIn wsX0_daysUntilFullFrom (va_wsS RX0 9 yX0_phaseOn wsX0_phaseOn) := goodIn_app (goodIn_of _ (by decide +kernel)) ggX0_daysUntilFullFrom_X0_phaseOn
theorem dX0_daysUntilFullFrom_0 : decode cX0_daysUntilFullFrom 0 = .ok (.bipush 12, 2) := by decide +kernel
theorem dX0_daysUntilFullFrom_2 : decode cX0_daysUntilFullFrom 2 = .ok (.iload_n 0, 1) := by decide +kernel
theorem dX0_daysUntilFullFrom_3 : decode cX0_daysUntilFullFrom 3 = .ok (.invokestatic 9, 3) := by decide +kernel
theorem dX0_daysUntilFullFrom_6 : decode cX0_daysUntilFullFrom 6 = .ok (.isub, 1) := by decide +kernel
theorem dX0_daysUntilFullFrom_7 : decode cX0_daysUntilFullFrom 7 = .ok (.bipush 8, 2) := by decide +kernel
theorem dX0_daysUntilFullFrom_9 : decode cX0_daysUntilFullFrom 9 = .ok (.irem, 1) := by decide +kernel
theorem dX0_daysUntilFullFrom_10 : decode cX0_daysUntilFullFrom 10 = .ok (.ireturn, 1) := by decide +kernel
set_option maxRecDepth 20000 in
theorem ggX1_init_X2_init : GoodIn wsX1_init wsX2_init := goodIn_r _ [16, 17, 2, 3, 18, 19, 20, 21, 22, 23, 24, 25, 34, 35, 36, 37, 38, 39, 40] (by decide +kernel) (by decide +kernel)
set_option maxRecDepth 20000 in
theorem gX1_init_X2_init_n11 : GoodIn wsX1_init (wsX2_init) := ggX1_init_X2_init
set_option maxRecDepth 20000 in
theorem ggX1_init_X3_init : GoodIn wsX1_init wsX3_init := goodIn_r _ [27, 28, 2, 3, 18, 29, 30, 31, 32, 33, 46, 47, 48, 49, 50] (by decide +kernel) (by decide +kernel)
set_option maxRecDepth 20000 in
theorem gX1_init_X3_init_n20 : GoodIn wsX1_init (wsX3_init) := ggX1_init_X3_init
theorem dX1_init_0 : decode cX1_init 0 = .ok (.aload_n 0, 1) := by decide +kernel
theorem dX1_init_1 : decode cX1_init 1 = .ok (.invokespecial 3, 3) := by decide +kernel
theorem dX1_init_4 : decode cX1_init 4 = .ok (.aload_n 0, 1) := by decide +kernel
theorem dX1_init_5 : decode cX1_init 5 = .ok (.new 9, 3) := by decide +kernel
theorem dX1_init_8 : decode cX1_init 8 = .ok (.dup, 1) := by decide +kernel
theorem dX1_init_9 : decode cX1_init 9 = .ok (.invokespecial 11, 3) := by decide +kernel
theorem dX1_init_12 : decode cX1_init 12 = .ok (.putfield 12, 3) := by decide +kernel
theorem dX1_init_15 : decode cX1_init 15 = .ok (.aload_n 0, 1) := by decide +kernel
theorem dX1_init_16 : decode cX1_init 16 = .ok (.new 18, 3) := by decide +kernel
theorem dX1_init_19 : decode cX1_init 19 = .ok (.dup, 1) := by decide +kernel
theorem dX1_init_20 : decode cX1_init 20 = .ok (.invokespecial 20, 3) := by decide +kernel
theorem dX1_init_23 : decode cX1_init 23 = .ok (.putfield 21, 3) := by decide +kernel
theorem dX1_init_26 : decode cX1_init 26 = .ok (.aload_n 0, 1) := by decide +kernel
theorem dX1_init_27 : decode cX1_init 27 = .ok (.iconst 0, 1) := by decide +kernel
theorem dX1_init_28 : decode cX1_init 28 = .ok (.putfield 25, 3) := by decide +kernel
theorem dX1_init_31 : decode cX1_init 31 = .ok (.aload_n 0, 1) := by decide +kernel
theorem dX1_init_32 : decode cX1_init 32 = .ok (.bipush 12, 2) := by decide +kernel
theorem dX1_init_34 : decode cX1_init 34 = .ok (.putfield 29, 3) := by decide +kernel
theorem dX1_init_37 : decode cX1_init 37 = .ok (.aload_n 0, 1) := by decide +kernel
theorem dX1_init_38 : decode cX1_init 38 = .ok (.iconst 0, 1) := by decide +kernel
theorem dX1_init_39 : decode cX1_init 39 = .ok (.putfield 32, 3) := by decide +kernel
theorem dX1_init_42 : decode cX1_init 42 = .ok (.return_, 1) := by decide +kernel
set_option maxRecDepth 20000 in
theorem ggX1_rankRuins_X0_brightnessOn : GoodIn wsX1_rankRuins wsX0_brightnessOn := goodIn_r _ [6, 7, 8, 5, 9] (by decide +kernel) (by decide +kernel)
set_option maxRecDepth 20000 in
theorem gX1_rankRuins_X0_brightnessOn : GoodIn wsX1_rankRuins (va_wsS RX1 42 yX0_brightnessOn wsX0_brightnessOn) := goodIn_app (goodIn_of _ (by decide +kernel)) ggX1_rankRuins_X0_brightnessOn
set_option maxRecDepth 20000 in
theorem ggX1_rankRuins_X2_rankAll : GoodIn wsX1_rankRuins wsX2_rankAll := goodIn_r _ [14, 15, 16, 17, 18, 19, 20, 21, 13, 22, 23, 24, 25, 26, 27, 28, 29, 30, 31, 32, 33, 34, 35, 36, 37, 43, 44, 45, 46, 47, 48, 49] (by decide +kernel) (by decide +kernel)
set_option maxRecDepth 20000 in
theorem gX1_rankRuins_X2_rankAll : GoodIn wsX1_rankRuins (wsV RX1 48 RX2 yX2_rankAll wsX2_rankAll) := goodIn_app (goodIn_of _ (by decide +kernel)) ggX1_rankRuins_X2_rankAll
theorem dX1_rankRuins_0 : decode cX1_rankRuins 0 = .ok (.aload_n 0, 1) := by decide +kernel
theorem dX1_rankRuins_1 : decode cX1_rankRuins 1 = .ok (.getfield 12, 3) := by decide +kernel
theorem dX1_rankRuins_4 : decode cX1_rankRuins 4 = .ok (.aload_n 0, 1) := by decide +kernel
theorem dX1_rankRuins_5 : decode cX1_rankRuins 5 = .ok (.getfield 25, 3) := by decide +kernel
theorem dX1_rankRuins_8 : decode cX1_rankRuins 8 = .ok (.invokestatic 42, 3) := by decide +kernel
theorem dX1_rankRuins_11 : decode cX1_rankRuins 11 = .ok (.invokevirtual 48, 3) := by decide +kernel
theorem dX1_rankRuins_14 : decode cX1_rankRuins 14 = .ok (.return_, 1) := by decide +kernel
theorem dX1_guestsAtRank_0 : decode cX1_guestsAtRank 0 = .ok (.iload_n 1, 1) := by decide +kernel
theorem dX1_guestsAtRank_1 : decode cX1_guestsAtRank 1 = .ok (.ifCond .ge 5, 3) := by decide +kernel
theorem dX1_guestsAtRank_4 : decode cX1_guestsAtRank 4 = .ok (.iconst 0, 1) := by decide +kernel
theorem dX1_guestsAtRank_5 : decode cX1_guestsAtRank 5 = .ok (.ireturn, 1) := by decide +kernel
theorem dX1_guestsAtRank_6 : decode cX1_guestsAtRank 6 = .ok (.aload_n 0, 1) := by decide +kernel
theorem dX1_guestsAtRank_7 : decode cX1_guestsAtRank 7 = .ok (.getfield 29, 3) := by decide +kernel
theorem dX1_guestsAtRank_10 : decode cX1_guestsAtRank 10 = .ok (.istore_n 2, 1) := by decide +kernel
theorem dX1_guestsAtRank_11 : decode cX1_guestsAtRank 11 = .ok (.iconst 0, 1) := by decide +kernel
theorem dX1_guestsAtRank_12 : decode cX1_guestsAtRank 12 = .ok (.istore_n 3, 1) := by decide +kernel
theorem dX1_guestsAtRank_13 : decode cX1_guestsAtRank 13 = .ok (.iload_n 3, 1) := by decide +kernel
theorem dX1_guestsAtRank_14 : decode cX1_guestsAtRank 14 = .ok (.iload_n 1, 1) := by decide +kernel
theorem dX1_guestsAtRank_15 : decode cX1_guestsAtRank 15 = .ok (.if_icmp .ge 13, 3) := by decide +kernel
theorem dX1_guestsAtRank_18 : decode cX1_guestsAtRank 18 = .ok (.iload_n 2, 1) := by decide +kernel
theorem dX1_guestsAtRank_19 : decode cX1_guestsAtRank 19 = .ok (.iconst 2, 1) := by decide +kernel
theorem dX1_guestsAtRank_20 : decode cX1_guestsAtRank 20 = .ok (.idiv, 1) := by decide +kernel
theorem dX1_guestsAtRank_21 : decode cX1_guestsAtRank 21 = .ok (.istore_n 2, 1) := by decide +kernel
theorem dX1_guestsAtRank_22 : decode cX1_guestsAtRank 22 = .ok (.iinc 3 1, 3) := by decide +kernel
theorem dX1_guestsAtRank_25 : decode cX1_guestsAtRank 25 = .ok (.goto (-12), 3) := by decide +kernel
theorem dX1_guestsAtRank_28 : decode cX1_guestsAtRank 28 = .ok (.iload_n 2, 1) := by decide +kernel
theorem dX1_guestsAtRank_29 : decode cX1_guestsAtRank 29 = .ok (.iload_n 2, 1) := by decide +kernel
theorem dX1_guestsAtRank_30 : decode cX1_guestsAtRank 30 = .ok (.iconst 2, 1) := by decide +kernel
theorem dX1_guestsAtRank_31 : decode cX1_guestsAtRank 31 = .ok (.idiv, 1) := by decide +kernel
theorem dX1_guestsAtRank_32 : decode cX1_guestsAtRank 32 = .ok (.isub, 1) := by decide +kernel
theorem dX1_guestsAtRank_33 : decode cX1_guestsAtRank 33 = .ok (.ireturn, 1) := by decide +kernel
set_option maxRecDepth 20000 in
theorem ggX1_takings_X0_brightnessOn : GoodIn wsX1_takings wsX0_brightnessOn := goodIn_r _ [9, 10, 11, 8, 12] (by decide +kernel) (by decide +kernel)
set_option maxRecDepth 20000 in
theorem gX1_takings_X0_brightnessOn : GoodIn wsX1_takings (va_wsS RX1 42 yX0_brightnessOn wsX0_brightnessOn) := goodIn_app (goodIn_of _ (by decide +kernel)) ggX1_takings_X0_brightnessOn
set_option maxRecDepth 20000 in
theorem ggX1_takings_X2_rankAll : GoodIn wsX1_takings wsX2_rankAll := goodIn_r _ [17, 18, 19, 20, 21, 22, 23, 24, 16, 25, 26, 27, 28, 29, 30, 31, 32, 33, 34, 35, 36, 37, 38, 39, 40, 52, 53, 54, 55, 56, 57, 58] (by decide +kernel) (by decide +kernel)
set_option maxRecDepth 20000 in
theorem gX1_takings_X2_rankAll : GoodIn wsX1_takings (wsV RX1 48 RX2 yX2_rankAll wsX2_rankAll) := goodIn_app (goodIn_of _ (by decide +kernel)) ggX1_takings_X2_rankAll
set_option maxRecDepth 20000 in
theorem ggX1_takings_X1_guestsAtRank : GoodIn wsX1_takings wsX1_guestsAtRank := goodIn_r _ [45, 46, 47, 48, 49, 50, 51] (by decide +kernel) (by decide +kernel)
set_option maxRecDepth 20000 in
theorem gX1_takings_X1_guestsAtRank : GoodIn wsX1_takings (wsV RX1 59 RX1 yX1_guestsAtRank wsX1_guestsAtRank) := goodIn_app (goodIn_of _ (by decide +kernel)) ggX1_takings_X1_guestsAtRank
theorem dX1_takings_0 : decode cX1_takings 0 = .ok (.aload_n 0, 1) := by decide +kernel
theorem dX1_takings_1 : decode cX1_takings 1 = .ok (.getfield 12, 3) := by decide +kernel
theorem dX1_takings_4 : decode cX1_takings 4 = .ok (.aload_n 0, 1) := by decide +kernel
theorem dX1_takings_5 : decode cX1_takings 5 = .ok (.getfield 25, 3) := by decide +kernel
theorem dX1_takings_8 : decode cX1_takings 8 = .ok (.invokestatic 42, 3) := by decide +kernel
theorem dX1_takings_11 : decode cX1_takings 11 = .ok (.invokevirtual 48, 3) := by decide +kernel
theorem dX1_takings_14 : decode cX1_takings 14 = .ok (.iconst 0, 1) := by decide +kernel
theorem dX1_takings_15 : decode cX1_takings 15 = .ok (.istore_n 1, 1) := by decide +kernel
theorem dX1_takings_16 : decode cX1_takings 16 = .ok (.iconst 0, 1) := by decide +kernel
theorem dX1_takings_17 : decode cX1_takings 17 = .ok (.istore_n 2, 1) := by decide +kernel
theorem dX1_takings_18 : decode cX1_takings 18 = .ok (.iload_n 2, 1) := by decide +kernel
theorem dX1_takings_19 : decode cX1_takings 19 = .ok (.aload_n 0, 1) := by decide +kernel
theorem dX1_takings_20 : decode cX1_takings 20 = .ok (.getfield 12, 3) := by decide +kernel
theorem dX1_takings_23 : decode cX1_takings 23 = .ok (.getfield 52, 3) := by decide +kernel
theorem dX1_takings_26 : decode cX1_takings 26 = .ok (.if_icmp .ge 35, 3) := by decide +kernel
theorem dX1_takings_29 : decode cX1_takings 29 = .ok (.iload_n 1, 1) := by decide +kernel
theorem dX1_takings_30 : decode cX1_takings 30 = .ok (.aload_n 0, 1) := by decide +kernel
theorem dX1_takings_31 : decode cX1_takings 31 = .ok (.aload_n 0, 1) := by decide +kernel
theorem dX1_takings_32 : decode cX1_takings 32 = .ok (.getfield 12, 3) := by decide +kernel
theorem dX1_takings_35 : decode cX1_takings 35 = .ok (.getfield 55, 3) := by decide +kernel
theorem dX1_takings_38 : decode cX1_takings 38 = .ok (.iload_n 2, 1) := by decide +kernel
theorem dX1_takings_39 : decode cX1_takings 39 = .ok (.iaload, 1) := by decide +kernel
theorem dX1_takings_40 : decode cX1_takings 40 = .ok (.invokevirtual 59, 3) := by decide +kernel
theorem dX1_takings_43 : decode cX1_takings 43 = .ok (.aload_n 0, 1) := by decide +kernel
theorem dX1_takings_44 : decode cX1_takings 44 = .ok (.getfield 12, 3) := by decide +kernel
theorem dX1_takings_47 : decode cX1_takings 47 = .ok (.getfield 62, 3) := by decide +kernel
theorem dX1_takings_50 : decode cX1_takings 50 = .ok (.iload_n 2, 1) := by decide +kernel
theorem dX1_takings_51 : decode cX1_takings 51 = .ok (.iaload, 1) := by decide +kernel
theorem dX1_takings_52 : decode cX1_takings 52 = .ok (.imul, 1) := by decide +kernel
theorem dX1_takings_53 : decode cX1_takings 53 = .ok (.iadd, 1) := by decide +kernel
theorem dX1_takings_54 : decode cX1_takings 54 = .ok (.istore_n 1, 1) := by decide +kernel
theorem dX1_takings_55 : decode cX1_takings 55 = .ok (.iinc 2 1, 3) := by decide +kernel
theorem dX1_takings_58 : decode cX1_takings 58 = .ok (.goto (-40), 3) := by decide +kernel
theorem dX1_takings_61 : decode cX1_takings 61 = .ok (.iload_n 1, 1) := by decide +kernel
theorem dX1_takings_62 : decode cX1_takings 62 = .ok (.ireturn, 1) := by decide +kernel
set_option maxRecDepth 20000 in
theorem ggX1_passDays_X1_takings : GoodIn wsX1_passDays wsX1_takings := goodIn_r _ [9, 4, 3, 10, 11, 12, 13, 14, 15, 16, 17, 18, 19, 20, 21, 22, 23, 24, 25, 26, 27, 28, 29, 30, 31, 32, 33, 34, 35, 36, 37, 38, 39, 40, 41, 42, 43, 44, 45, 46, 47, 48, 49, 50, 8, 51, 52, 88, 89, 90, 91, 92, 93, 94, 95, 96, 97, 98, 99] (by decide +kernel) (by decide +kernel)
set_option maxRecDepth 20000 in
theorem gX1_passDays_X1_takings : GoodIn wsX1_passDays (wsV RX1 65 RX1 yX1_takings wsX1_takings) := goodIn_app (goodIn_of _ (by decide +kernel)) ggX1_passDays_X1_takings
set_option maxRecDepth 20000 in
theorem ggX1_passDays_X3_settle : GoodIn wsX1_passDays wsX3_settle := goodIn_r _ [57, 58, 59, 60, 61, 62, 63, 64, 65, 23, 66, 28, 67, 68, 69, 70, 25, 100, 101, 102, 103, 104, 93, 94, 95, 96, 97, 98, 99] (by decide +kernel) (by decide +kernel)
set_option maxRecDepth 20000 in
theorem gX1_passDays_X3_settle : GoodIn wsX1_passDays (wsV RX1 69 RX3 yX3_settle wsX3_settle) := goodIn_app (goodIn_of _ (by decide +kernel)) ggX1_passDays_X3_settle
set_option maxRecDepth 20000 in
theorem ggX1_passDays_X2_ageAll : GoodIn wsX1_passDays wsX2_ageAll := goodIn_r _ [74, 25, 75, 76, 77, 23, 78, 28, 79, 80, 81, 82, 43, 83, 14, 15, 16, 17, 18, 19, 84, 85, 86, 87, 38, 39, 40, 41, 42, 93, 94, 95, 96, 97, 98, 99] (by decide +kernel) (by decide +kernel)
set_option maxRecDepth 20000 in
theorem gX1_passDays_X2_ageAll : GoodIn wsX1_passDays (wsV RX1 73 RX2 yX2_ageAll wsX2_ageAll) := goodIn_app (goodIn_of _ (by decide +kernel)) ggX1_passDays_X2_ageAll
theorem dX1_passDays_0 : decode cX1_passDays 0 = .ok (.iconst 0, 1) := by decide +kernel
theorem dX1_passDays_1 : decode cX1_passDays 1 = .ok (.istore_n 2, 1) := by decide +kernel
theorem dX1_passDays_2 : decode cX1_passDays 2 = .ok (.iload_n 2, 1) := by decide +kernel
theorem dX1_passDays_3 : decode cX1_passDays 3 = .ok (.iload_n 1, 1) := by decide +kernel
theorem dX1_passDays_4 : decode cX1_passDays 4 = .ok (.if_icmp .ge 67, 3) := by decide +kernel
theorem dX1_passDays_7 : decode cX1_passDays 7 = .ok (.aload_n 0, 1) := by decide +kernel
theorem dX1_passDays_8 : decode cX1_passDays 8 = .ok (.dup, 1) := by decide +kernel
theorem dX1_passDays_9 : decode cX1_passDays 9 = .ok (.getfield 32, 3) := by decide +kernel
theorem dX1_passDays_12 : decode cX1_passDays 12 = .ok (.aload_n 0, 1) := by decide +kernel
theorem dX1_passDays_13 : decode cX1_passDays 13 = .ok (.invokevirtual 65, 3) := by decide +kernel
theorem dX1_passDays_16 : decode cX1_passDays 16 = .ok (.iadd, 1) := by decide +kernel
theorem dX1_passDays_17 : decode cX1_passDays 17 = .ok (.putfield 32, 3) := by decide +kernel
theorem dX1_passDays_20 : decode cX1_passDays 20 = .ok (.aload_n 0, 1) := by decide +kernel
theorem dX1_passDays_21 : decode cX1_passDays 21 = .ok (.dup, 1) := by decide +kernel
theorem dX1_passDays_22 : decode cX1_passDays 22 = .ok (.getfield 32, 3) := by decide +kernel
theorem dX1_passDays_25 : decode cX1_passDays 25 = .ok (.aload_n 0, 1) := by decide +kernel
theorem dX1_passDays_26 : decode cX1_passDays 26 = .ok (.getfield 21, 3) := by decide +kernel
theorem dX1_passDays_29 : decode cX1_passDays 29 = .ok (.aload_n 0, 1) := by decide +kernel
theorem dX1_passDays_30 : decode cX1_passDays 30 = .ok (.getfield 25, 3) := by decide +kernel
theorem dX1_passDays_33 : decode cX1_passDays 33 = .ok (.aload_n 0, 1) := by decide +kernel
theorem dX1_passDays_34 : decode cX1_passDays 34 = .ok (.getfield 12, 3) := by decide +kernel
theorem dX1_passDays_37 : decode cX1_passDays 37 = .ok (.invokevirtual 69, 3) := by decide +kernel
theorem dX1_passDays_40 : decode cX1_passDays 40 = .ok (.isub, 1) := by decide +kernel
theorem dX1_passDays_41 : decode cX1_passDays 41 = .ok (.putfield 32, 3) := by decide +kernel
theorem dX1_passDays_44 : decode cX1_passDays 44 = .ok (.aload_n 0, 1) := by decide +kernel
theorem dX1_passDays_45 : decode cX1_passDays 45 = .ok (.getfield 12, 3) := by decide +kernel
theorem dX1_passDays_48 : decode cX1_passDays 48 = .ok (.aload_n 0, 1) := by decide +kernel
theorem dX1_passDays_49 : decode cX1_passDays 49 = .ok (.getfield 25, 3) := by decide +kernel
theorem dX1_passDays_52 : decode cX1_passDays 52 = .ok (.invokevirtual 73, 3) := by decide +kernel
theorem dX1_passDays_55 : decode cX1_passDays 55 = .ok (.aload_n 0, 1) := by decide +kernel
theorem dX1_passDays_56 : decode cX1_passDays 56 = .ok (.dup, 1) := by decide +kernel
theorem dX1_passDays_57 : decode cX1_passDays 57 = .ok (.getfield 25, 3) := by decide +kernel
theorem dX1_passDays_60 : decode cX1_passDays 60 = .ok (.iconst 1, 1) := by decide +kernel
theorem dX1_passDays_61 : decode cX1_passDays 61 = .ok (.iadd, 1) := by decide +kernel
theorem dX1_passDays_62 : decode cX1_passDays 62 = .ok (.putfield 25, 3) := by decide +kernel
theorem dX1_passDays_65 : decode cX1_passDays 65 = .ok (.iinc 2 1, 3) := by decide +kernel
theorem dX1_passDays_68 : decode cX1_passDays 68 = .ok (.goto (-66), 3) := by decide +kernel
theorem dX1_passDays_71 : decode cX1_passDays 71 = .ok (.return_, 1) := by decide +kernel
theorem dX2_init_0 : decode cX2_init 0 = .ok (.aload_n 0, 1) := by decide +kernel
theorem dX2_init_1 : decode cX2_init 1 = .ok (.invokespecial 3, 3) := by decide +kernel
theorem dX2_init_4 : decode cX2_init 4 = .ok (.aload_n 0, 1) := by decide +kernel
theorem dX2_init_5 : decode cX2_init 5 = .ok (.bipush 10, 2) := by decide +kernel
theorem dX2_init_7 : decode cX2_init 7 = .ok (.newarray .int, 2) := by decide +kernel
theorem dX2_init_9 : decode cX2_init 9 = .ok (.putfield 9, 3) := by decide +kernel
theorem dX2_init_12 : decode cX2_init 12 = .ok (.aload_n 0, 1) := by decide +kernel
theorem dX2_init_13 : decode cX2_init 13 = .ok (.bipush 10, 2) := by decide +kernel
theorem dX2_init_15 : decode cX2_init 15 = .ok (.newarray .int, 2) := by decide +kernel
theorem dX2_init_17 : decode cX2_init 17 = .ok (.putfield 15, 3) := by decide +kernel
theorem dX2_init_20 : decode cX2_init 20 = .ok (.aload_n 0, 1) := by decide +kernel
theorem dX2_init_21 : decode cX2_init 21 = .ok (.bipush 10, 2) := by decide +kernel
theorem dX2_init_23 : decode cX2_init 23 = .ok (.newarray .int, 2) := by decide +kernel
theorem dX2_init_25 : decode cX2_init 25 = .ok (.putfield 18, 3) := by decide +kernel
theorem dX2_init_28 : decode cX2_init 28 = .ok (.aload_n 0, 1) := by decide +kernel
theorem dX2_init_29 : decode cX2_init 29 = .ok (.bipush 10, 2) := by decide +kernel
theorem dX2_init_31 : decode cX2_init 31 = .ok (.newarray .int, 2) := by decide +kernel
theorem dX2_init_33 : decode cX2_init 33 = .ok (.putfield 21, 3) := by decide +kernel
theorem dX2_init_36 : decode cX2_init 36 = .ok (.aload_n 0, 1) := by decide +kernel
theorem dX2_init_37 : decode cX2_init 37 = .ok (.bipush 10, 2) := by decide +kernel
theorem dX2_init_39 : decode cX2_init 39 = .ok (.newarray .int, 2) := by decide +kernel
theorem dX2_init_41 : decode cX2_init 41 = .ok (.putfield 24, 3) := by decide +kernel
theorem dX2_init_44 : decode cX2_init 44 = .ok (.aload_n 0, 1) := by decide +kernel
theorem dX2_init_45 : decode cX2_init 45 = .ok (.bipush 10, 2) := by decide +kernel
theorem dX2_init_47 : decode cX2_init 47 = .ok (.newarray .int, 2) := by decide +kernel
theorem dX2_init_49 : decode cX2_init 49 = .ok (.putfield 27, 3) := by decide +kernel
theorem dX2_init_52 : decode cX2_init 52 = .ok (.aload_n 0, 1) := by decide +kernel
theorem dX2_init_53 : decode cX2_init 53 = .ok (.iconst 0, 1) := by decide +kernel
theorem dX2_init_54 : decode cX2_init 54 = .ok (.putfield 30, 3) := by decide +kernel
theorem dX2_init_57 : decode cX2_init 57 = .ok (.return_, 1) := by decide +kernel
theorem dX2_has_0 : decode cX2_has 0 = .ok (.iload_n 1, 1) := by decide +kernel
theorem dX2_has_1 : decode cX2_has 1 = .ok (.ifCond .lt 15, 3) := by decide +kernel
theorem dX2_has_4 : decode cX2_has 4 = .ok (.iload_n 1, 1) := by decide +kernel
theorem dX2_has_5 : decode cX2_has 5 = .ok (.aload_n 0, 1) := by decide +kernel
theorem dX2_has_6 : decode cX2_has 6 = .ok (.getfield 30, 3) := by decide +kernel
theorem dX2_has_9 : decode cX2_has 9 = .ok (.if_icmp .ge 7, 3) := by decide +kernel
theorem dX2_has_12 : decode cX2_has 12 = .ok (.iconst 1, 1) := by decide +kernel
theorem dX2_has_13 : decode cX2_has 13 = .ok (.goto 4, 3) := by decide +kernel
theorem dX2_has_16 : decode cX2_has 16 = .ok (.iconst 0, 1) := by decide +kernel
theorem dX2_has_17 : decode cX2_has 17 = .ok (.ireturn, 1) := by decide +kernel
theorem dX2_build_0 : decode cX2_build 0 = .ok (.aload_n 0, 1) := by decide +kernel
theorem dX2_build_1 : decode cX2_build 1 = .ok (.getfield 30, 3) := by decide +kernel
theorem dX2_build_4 : decode cX2_build 4 = .ok (.istore 5, 2) := by decide +kernel
theorem dX2_build_6 : decode cX2_build 6 = .ok (.iload 5, 2) := by decide +kernel
theorem dX2_build_8 : decode cX2_build 8 = .ok (.bipush 10, 2) := by decide +kernel
theorem dX2_build_10 : decode cX2_build 10 = .ok (.if_icmp .lt 5, 3) := by decide +kernel
theorem dX2_build_13 : decode cX2_build 13 = .ok (.iconst (-1), 1) := by decide +kernel
theorem dX2_build_14 : decode cX2_build 14 = .ok (.ireturn, 1) := by decide +kernel
theorem dX2_build_15 : decode cX2_build 15 = .ok (.aload_n 0, 1) := by decide +kernel
theorem dX2_build_16 : decode cX2_build 16 = .ok (.getfield 9, 3) := by decide +kernel
theorem dX2_build_19 : decode cX2_build 19 = .ok (.iload 5, 2) := by decide +kernel
theorem dX2_build_21 : decode cX2_build 21 = .ok (.iload_n 1, 1) := by decide +kernel
theorem dX2_build_22 : decode cX2_build 22 = .ok (.iastore, 1) := by decide +kernel
theorem dX2_build_23 : decode cX2_build 23 = .ok (.aload_n 0, 1) := by decide +kernel
theorem dX2_build_24 : decode cX2_build 24 = .ok (.getfield 15, 3) := by decide +kernel
theorem dX2_build_27 : decode cX2_build 27 = .ok (.iload 5, 2) := by decide +kernel
theorem dX2_build_29 : decode cX2_build 29 = .ok (.iload_n 2, 1) := by decide +kernel
theorem dX2_build_30 : decode cX2_build 30 = .ok (.iastore, 1) := by decide +kernel
theorem dX2_build_31 : decode cX2_build 31 = .ok (.aload_n 0, 1) := by decide +kernel
theorem dX2_build_32 : decode cX2_build 32 = .ok (.getfield 18, 3) := by decide +kernel
theorem dX2_build_35 : decode cX2_build 35 = .ok (.iload 5, 2) := by decide +kernel
theorem dX2_build_37 : decode cX2_build 37 = .ok (.iload_n 3, 1) := by decide +kernel
theorem dX2_build_38 : decode cX2_build 38 = .ok (.iastore, 1) := by decide +kernel
theorem dX2_build_39 : decode cX2_build 39 = .ok (.aload_n 0, 1) := by decide +kernel
theorem dX2_build_40 : decode cX2_build 40 = .ok (.getfield 21, 3) := by decide +kernel
theorem dX2_build_43 : decode cX2_build 43 = .ok (.iload 5, 2) := by decide +kernel
theorem dX2_build_45 : decode cX2_build 45 = .ok (.iload 4, 2) := by decide +kernel
theorem dX2_build_47 : decode cX2_build 47 = .ok (.iastore, 1) := by decide +kernel
theorem dX2_build_48 : decode cX2_build 48 = .ok (.aload_n 0, 1) := by decide +kernel
theorem dX2_build_49 : decode cX2_build 49 = .ok (.dup, 1) := by decide +kernel
theorem dX2_build_50 : decode cX2_build 50 = .ok (.getfield 30, 3) := by decide +kernel
theorem dX2_build_53 : decode cX2_build 53 = .ok (.iconst 1, 1) := by decide +kernel
theorem dX2_build_54 : decode cX2_build 54 = .ok (.iadd, 1) := by decide +kernel
theorem dX2_build_55 : decode cX2_build 55 = .ok (.putfield 30, 3) := by decide +kernel
theorem dX2_build_58 : decode cX2_build 58 = .ok (.iload 5, 2) := by decide +kernel
theorem dX2_build_60 : decode cX2_build 60 = .ok (.ireturn, 1) := by decide +kernel
set_option maxRecDepth 20000 in
theorem ggX2_stands_X2_has : GoodIn wsX2_stands wsX2_has := goodIn_r _ [6, 7, 8, 9, 10, 11, 12, 13, 14] (by decide +kernel) (by decide +kernel)
set_option maxRecDepth 20000 in
theorem gX2_stands_X2_has : GoodIn wsX2_stands (wsV RX2 40 RX2 yX2_has wsX2_has) := goodIn_app (goodIn_of _ (by decide +kernel)) ggX2_stands_X2_has
theorem dX2_stands_0 : decode cX2_stands 0 = .ok (.aload_n 0, 1) := by decide +kernel
theorem dX2_stands_1 : decode cX2_stands 1 = .ok (.iload_n 1, 1) := by decide +kernel
theorem dX2_stands_2 : decode cX2_stands 2 = .ok (.invokevirtual 40, 3) := by decide +kernel
theorem dX2_stands_5 : decode cX2_stands 5 = .ok (.ifCond .eq 16, 3) := by decide +kernel
theorem dX2_stands_8 : decode cX2_stands 8 = .ok (.aload_n 0, 1) := by decide +kernel
theorem dX2_stands_9 : decode cX2_stands 9 = .ok (.getfield 9, 3) := by decide +kernel
theorem dX2_stands_12 : decode cX2_stands 12 = .ok (.iload_n 1, 1) := by decide +kernel
theorem dX2_stands_13 : decode cX2_stands 13 = .ok (.iaload, 1) := by decide +kernel
theorem dX2_stands_14 : decode cX2_stands 14 = .ok (.ifCond .le 7, 3) := by decide +kernel
theorem dX2_stands_17 : decode cX2_stands 17 = .ok (.iconst 1, 1) := by decide +kernel
theorem dX2_stands_18 : decode cX2_stands 18 = .ok (.goto 4, 3) := by decide +kernel
theorem dX2_stands_21 : decode cX2_stands 21 = .ok (.iconst 0, 1) := by decide +kernel
theorem dX2_stands_22 : decode cX2_stands 22 = .ok (.ireturn, 1) := by decide +kernel
theorem dX2_countStanding_0 : decode cX2_countStanding 0 = .ok (.iconst 0, 1) := by decide +kernel
theorem dX2_countStanding_1 : decode cX2_countStanding 1 = .ok (.istore_n 1, 1) := by decide +kernel
theorem dX2_countStanding_2 : decode cX2_countStanding 2 = .ok (.iconst 0, 1) := by decide +kernel
theorem dX2_countStanding_3 : decode cX2_countStanding 3 = .ok (.istore_n 2, 1) := by decide +kernel
theorem dX2_countStanding_4 : decode cX2_countStanding 4 = .ok (.iload_n 2, 1) := by decide +kernel
theorem dX2_countStanding_5 : decode cX2_countStanding 5 = .ok (.aload_n 0, 1) := by decide +kernel
theorem dX2_countStanding_6 : decode cX2_countStanding 6 = .ok (.getfield 30, 3) := by decide +kernel
theorem dX2_countStanding_9 : decode cX2_countStanding 9 = .ok (.if_icmp .ge 21, 3) := by decide +kernel
theorem dX2_countStanding_12 : decode cX2_countStanding 12 = .ok (.aload_n 0, 1) := by decide +kernel
theorem dX2_countStanding_13 : decode cX2_countStanding 13 = .ok (.getfield 9, 3) := by decide +kernel
theorem dX2_countStanding_16 : decode cX2_countStanding 16 = .ok (.iload_n 2, 1) := by decide +kernel
theorem dX2_countStanding_17 : decode cX2_countStanding 17 = .ok (.iaload, 1) := by decide +kernel
theorem dX2_countStanding_18 : decode cX2_countStanding 18 = .ok (.ifCond .le 6, 3) := by decide +kernel
theorem dX2_countStanding_21 : decode cX2_countStanding 21 = .ok (.iinc 1 1, 3) := by decide +kernel
theorem dX2_countStanding_24 : decode cX2_countStanding 24 = .ok (.iinc 2 1, 3) := by decide +kernel
theorem dX2_countStanding_27 : decode cX2_countStanding 27 = .ok (.goto (-23), 3) := by decide +kernel
theorem dX2_countStanding_30 : decode cX2_countStanding 30 = .ok (.iload_n 1, 1) := by decide +kernel
theorem dX2_countStanding_31 : decode cX2_countStanding 31 = .ok (.ireturn, 1) := by decide +kernel
theorem dX2_cut_0 : decode cX2_cut 0 = .ok (.aload_n 0, 1) := by decide +kernel
theorem dX2_cut_1 : decode cX2_cut 1 = .ok (.getfield 15, 3) := by decide +kernel
theorem dX2_cut_4 : decode cX2_cut 4 = .ok (.iload_n 1, 1) := by decide +kernel
theorem dX2_cut_5 : decode cX2_cut 5 = .ok (.iconst 0, 1) := by decide +kernel
theorem dX2_cut_6 : decode cX2_cut 6 = .ok (.aload_n 0, 1) := by decide +kernel
theorem dX2_cut_7 : decode cX2_cut 7 = .ok (.getfield 15, 3) := by decide +kernel
theorem dX2_cut_10 : decode cX2_cut 10 = .ok (.iload_n 1, 1) := by decide +kernel
theorem dX2_cut_11 : decode cX2_cut 11 = .ok (.iaload, 1) := by decide +kernel
theorem dX2_cut_12 : decode cX2_cut 12 = .ok (.iload_n 2, 1) := by decide +kernel
theorem dX2_cut_13 : decode cX2_cut 13 = .ok (.isub, 1) := by decide +kernel
theorem dX2_cut_14 : decode cX2_cut 14 = .ok (.invokestatic 44, 3) := by decide +kernel
theorem dX2_cut_17 : decode cX2_cut 17 = .ok (.iastore, 1) := by decide +kernel
theorem dX2_cut_18 : decode cX2_cut 18 = .ok (.return_, 1) := by decide +kernel
theorem dX2_grade_0 : decode cX2_grade 0 = .ok (.aload_n 0, 1) := by decide +kernel
theorem dX2_grade_1 : decode cX2_grade 1 = .ok (.getfield 15, 3) := by decide +kernel
theorem dX2_grade_4 : decode cX2_grade 4 = .ok (.iload_n 1, 1) := by decide +kernel
theorem dX2_grade_5 : decode cX2_grade 5 = .ok (.iaload, 1) := by decide +kernel
theorem dX2_grade_6 : decode cX2_grade 6 = .ok (.istore_n 2, 1) := by decide +kernel
theorem dX2_grade_7 : decode cX2_grade 7 = .ok (.iload_n 2, 1) := by decide +kernel
theorem dX2_grade_8 : decode cX2_grade 8 = .ok (.bipush 10, 2) := by decide +kernel
theorem dX2_grade_10 : decode cX2_grade 10 = .ok (.if_icmp .lt 5, 3) := by decide +kernel
theorem dX2_grade_13 : decode cX2_grade 13 = .ok (.iconst 1, 1) := by decide +kernel
theorem dX2_grade_14 : decode cX2_grade 14 = .ok (.ireturn, 1) := by decide +kernel
theorem dX2_grade_15 : decode cX2_grade 15 = .ok (.iload_n 2, 1) := by decide +kernel
theorem dX2_grade_16 : decode cX2_grade 16 = .ok (.bipush 7, 2) := by decide +kernel
theorem dX2_grade_18 : decode cX2_grade 18 = .ok (.if_icmp .lt 5, 3) := by decide +kernel
theorem dX2_grade_21 : decode cX2_grade 21 = .ok (.iconst 3, 1) := by decide +kernel
theorem dX2_grade_22 : decode cX2_grade 22 = .ok (.ireturn, 1) := by decide +kernel
theorem dX2_grade_23 : decode cX2_grade 23 = .ok (.iload_n 2, 1) := by decide +kernel
theorem dX2_grade_24 : decode cX2_grade 24 = .ok (.iconst 4, 1) := by decide +kernel
theorem dX2_grade_25 : decode cX2_grade 25 = .ok (.if_icmp .lt 5, 3) := by decide +kernel
theorem dX2_grade_28 : decode cX2_grade 28 = .ok (.iconst 2, 1) := by decide +kernel
theorem dX2_grade_29 : decode cX2_grade 29 = .ok (.ireturn, 1) := by decide +kernel
theorem dX2_grade_30 : decode cX2_grade 30 = .ok (.iload_n 2, 1) := by decide +kernel
theorem dX2_grade_31 : decode cX2_grade 31 = .ok (.iconst 1, 1) := by decide +kernel
theorem dX2_grade_32 : decode cX2_grade 32 = .ok (.if_icmp .lt 7, 3) := by decide +kernel
theorem dX2_grade_35 : decode cX2_grade 35 = .ok (.iconst 1, 1) := by decide +kernel
theorem dX2_grade_36 : decode cX2_grade 36 = .ok (.goto 4, 3) := by decide +kernel
theorem dX2_grade_39 : decode cX2_grade 39 = .ok (.iconst 0, 1) := by decide +kernel
theorem dX2_grade_40 : decode cX2_grade 40 = .ok (.ireturn, 1) := by decide +kernel
set_option maxRecDepth 20000 in
theorem ggX2_view_X2_grade : GoodIn wsX2_view wsX2_grade := goodIn_r _ [7, 8, 9, 10, 11, 12, 13, 14, 15] (by decide +kernel) (by decide +kernel)
set_option maxRecDepth 20000 in
theorem gX2_view_X2_grade : GoodIn wsX2_view (wsV RX2 50 RX2 yX2_grade wsX2_grade) := goodIn_app (goodIn_of _ (by decide +kernel)) ggX2_view_X2_grade
theorem dX2_view_0 : decode cX2_view 0 = .ok (.aload_n 0, 1) := by decide +kernel
theorem dX2_view_1 : decode cX2_view 1 = .ok (.getfield 9, 3) := by decide +kernel
theorem dX2_view_4 : decode cX2_view 4 = .ok (.iload_n 1, 1) := by decide +kernel
theorem dX2_view_5 : decode cX2_view 5 = .ok (.iaload, 1) := by decide +kernel
theorem dX2_view_6 : decode cX2_view 6 = .ok (.ifCond .ne 5, 3) := by decide +kernel
theorem dX2_view_9 : decode cX2_view 9 = .ok (.iconst 0, 1) := by decide +kernel
theorem dX2_view_10 : decode cX2_view 10 = .ok (.ireturn, 1) := by decide +kernel
theorem dX2_view_11 : decode cX2_view 11 = .ok (.iconst 2, 1) := by decide +kernel
theorem dX2_view_12 : decode cX2_view 12 = .ok (.aload_n 0, 1) := by decide +kernel
theorem dX2_view_13 : decode cX2_view 13 = .ok (.getfield 9, 3) := by decide +kernel
theorem dX2_view_16 : decode cX2_view 16 = .ok (.iload_n 1, 1) := by decide +kernel
theorem dX2_view_17 : decode cX2_view 17 = .ok (.iaload, 1) := by decide +kernel
theorem dX2_view_18 : decode cX2_view 18 = .ok (.imul, 1) := by decide +kernel
theorem dX2_view_19 : decode cX2_view 19 = .ok (.iconst 3, 1) := by decide +kernel
theorem dX2_view_20 : decode cX2_view 20 = .ok (.aload_n 0, 1) := by decide +kernel
theorem dX2_view_21 : decode cX2_view 21 = .ok (.iload_n 1, 1) := by decide +kernel
theorem dX2_view_22 : decode cX2_view 22 = .ok (.invokevirtual 50, 3) := by decide +kernel
theorem dX2_view_25 : decode cX2_view 25 = .ok (.imul, 1) := by decide +kernel
theorem dX2_view_26 : decode cX2_view 26 = .ok (.iadd, 1) := by decide +kernel
theorem dX2_view_27 : decode cX2_view 27 = .ok (.aload_n 0, 1) := by decide +kernel
theorem dX2_view_28 : decode cX2_view 28 = .ok (.getfield 18, 3) := by decide +kernel
theorem dX2_view_31 : decode cX2_view 31 = .ok (.iload_n 1, 1) := by decide +kernel
theorem dX2_view_32 : decode cX2_view 32 = .ok (.iaload, 1) := by decide +kernel
theorem dX2_view_33 : decode cX2_view 33 = .ok (.iload_n 2, 1) := by decide +kernel
theorem dX2_view_34 : decode cX2_view 34 = .ok (.imul, 1) := by decide +kernel
theorem dX2_view_35 : decode cX2_view 35 = .ok (.iadd, 1) := by decide +kernel
theorem dX2_view_36 : decode cX2_view 36 = .ok (.ireturn, 1) := by decide +kernel
set_option maxRecDepth 20000 in
theorem ggX2_sumViews_X2_view : GoodIn wsX2_sumViews wsX2_view := goodIn_r _ [6, 7, 8, 9, 10, 11, 5, 12, 13, 14, 15, 16, 17, 18, 19, 20] (by decide +kernel) (by decide +kernel)
set_option maxRecDepth 20000 in
theorem gX2_sumViews_X2_view : GoodIn wsX2_sumViews (wsV RX2 54 RX2 yX2_view wsX2_view) := goodIn_app (goodIn_of _ (by decide +kernel)) ggX2_sumViews_X2_view
theorem dX2_sumViews_0 : decode cX2_sumViews 0 = .ok (.iconst 0, 1) := by decide +kernel
theorem dX2_sumViews_1 : decode cX2_sumViews 1 = .ok (.istore_n 2, 1) := by decide +kernel
theorem dX2_sumViews_2 : decode cX2_sumViews 2 = .ok (.iconst 0, 1) := by decide +kernel
theorem dX2_sumViews_3 : decode cX2_sumViews 3 = .ok (.istore_n 3, 1) := by decide +kernel
theorem dX2_sumViews_4 : decode cX2_sumViews 4 = .ok (.iload_n 3, 1) := by decide +kernel
theorem dX2_sumViews_5 : decode cX2_sumViews 5 = .ok (.aload_n 0, 1) := by decide +kernel
theorem dX2_sumViews_6 : decode cX2_sumViews 6 = .ok (.getfield 30, 3) := by decide +kernel
theorem dX2_sumViews_9 : decode cX2_sumViews 9 = .ok (.if_icmp .ge 18, 3) := by decide +kernel
theorem dX2_sumViews_12 : decode cX2_sumViews 12 = .ok (.iload_n 2, 1) := by decide +kernel
theorem dX2_sumViews_13 : decode cX2_sumViews 13 = .ok (.aload_n 0, 1) := by decide +kernel
theorem dX2_sumViews_14 : decode cX2_sumViews 14 = .ok (.iload_n 3, 1) := by decide +kernel
theorem dX2_sumViews_15 : decode cX2_sumViews 15 = .ok (.iload_n 1, 1) := by decide +kernel
theorem dX2_sumViews_16 : decode cX2_sumViews 16 = .ok (.invokevirtual 54, 3) := by decide +kernel
theorem dX2_sumViews_19 : decode cX2_sumViews 19 = .ok (.iadd, 1) := by decide +kernel
theorem dX2_sumViews_20 : decode cX2_sumViews 20 = .ok (.istore_n 2, 1) := by decide +kernel
theorem dX2_sumViews_21 : decode cX2_sumViews 21 = .ok (.iinc 3 1, 3) := by decide +kernel
theorem dX2_sumViews_24 : decode cX2_sumViews 24 = .ok (.goto (-20), 3) := by decide +kernel
theorem dX2_sumViews_27 : decode cX2_sumViews 27 = .ok (.iload_n 2, 1) := by decide +kernel
theorem dX2_sumViews_28 : decode cX2_sumViews 28 = .ok (.ireturn, 1) := by decide +kernel
set_option maxRecDepth 20000 in
theorem ggX2_merit_X2_view : GoodIn wsX2_merit wsX2_view := goodIn_r _ [7, 1, 8, 9, 10, 11, 6, 12, 13, 14, 15, 16, 17, 18, 19, 20] (by decide +kernel) (by decide +kernel)
set_option maxRecDepth 20000 in
theorem gX2_merit_X2_view : GoodIn wsX2_merit (wsV RX2 54 RX2 yX2_view wsX2_view) := goodIn_app (goodIn_of _ (by decide +kernel)) ggX2_merit_X2_view
theorem dX2_merit_0 : decode cX2_merit 0 = .ok (.aload_n 0, 1) := by decide +kernel
theorem dX2_merit_1 : decode cX2_merit 1 = .ok (.getfield 9, 3) := by decide +kernel
theorem dX2_merit_4 : decode cX2_merit 4 = .ok (.iload_n 1, 1) := by decide +kernel
theorem dX2_merit_5 : decode cX2_merit 5 = .ok (.iaload, 1) := by decide +kernel
theorem dX2_merit_6 : decode cX2_merit 6 = .ok (.ifCond .ne 5, 3) := by decide +kernel
theorem dX2_merit_9 : decode cX2_merit 9 = .ok (.iconst (-1), 1) := by decide +kernel
theorem dX2_merit_10 : decode cX2_merit 10 = .ok (.ireturn, 1) := by decide +kernel
theorem dX2_merit_11 : decode cX2_merit 11 = .ok (.aload_n 0, 1) := by decide +kernel
theorem dX2_merit_12 : decode cX2_merit 12 = .ok (.iload_n 1, 1) := by decide +kernel
theorem dX2_merit_13 : decode cX2_merit 13 = .ok (.iload_n 2, 1) := by decide +kernel
theorem dX2_merit_14 : decode cX2_merit 14 = .ok (.invokevirtual 54, 3) := by decide +kernel
theorem dX2_merit_17 : decode cX2_merit 17 = .ok (.bipush 10, 2) := by decide +kernel
theorem dX2_merit_19 : decode cX2_merit 19 = .ok (.imul, 1) := by decide +kernel
theorem dX2_merit_20 : decode cX2_merit 20 = .ok (.bipush 9, 2) := by decide +kernel
theorem dX2_merit_22 : decode cX2_merit 22 = .ok (.aload_n 0, 1) := by decide +kernel
theorem dX2_merit_23 : decode cX2_merit 23 = .ok (.getfield 21, 3) := by decide +kernel
theorem dX2_merit_26 : decode cX2_merit 26 = .ok (.iload_n 1, 1) := by decide +kernel
theorem dX2_merit_27 : decode cX2_merit 27 = .ok (.iaload, 1) := by decide +kernel
theorem dX2_merit_28 : decode cX2_merit 28 = .ok (.isub, 1) := by decide +kernel
theorem dX2_merit_29 : decode cX2_merit 29 = .ok (.iadd, 1) := by decide +kernel
theorem dX2_merit_30 : decode cX2_merit 30 = .ok (.istore_n 3, 1) := by decide +kernel
theorem dX2_merit_31 : decode cX2_merit 31 = .ok (.iload_n 3, 1) := by decide +kernel
theorem dX2_merit_32 : decode cX2_merit 32 = .ok (.bipush 10, 2) := by decide +kernel
theorem dX2_merit_34 : decode cX2_merit 34 = .ok (.imul, 1) := by decide +kernel
theorem dX2_merit_35 : decode cX2_merit 35 = .ok (.bipush 9, 2) := by decide +kernel
theorem dX2_merit_37 : decode cX2_merit 37 = .ok (.iload_n 1, 1) := by decide +kernel
theorem dX2_merit_38 : decode cX2_merit 38 = .ok (.isub, 1) := by decide +kernel
theorem dX2_merit_39 : decode cX2_merit 39 = .ok (.iadd, 1) := by decide +kernel
theorem dX2_merit_40 : decode cX2_merit 40 = .ok (.ireturn, 1) := by decide +kernel
set_option maxRecDepth 20000 in
theorem ggX2_rankAll_X2_merit : GoodIn wsX2_rankAll wsX2_merit := goodIn_r _ [9, 4, 10, 11, 12, 13, 8, 14, 15, 16, 17, 18, 19, 20, 25, 26, 27, 28, 29, 30, 31] (by decide +kernel) (by decide +kernel)
set_option maxRecDepth 20000 in
theorem gX2_rankAll_X2_merit : GoodIn wsX2_rankAll (wsV RX2 57 RX2 yX2_merit wsX2_merit) := goodIn_app (goodIn_of _ (by decide +kernel)) ggX2_rankAll_X2_merit
set_option maxRecDepth 20000 in
theorem ggX2_rankAll_X2_countAbove : GoodIn wsX2_rankAll wsX2_countAbove := goodIn_r _ [24, 1, 2, 25, 26, 27, 28, 29, 30, 31] (by decide +kernel) (by decide +kernel)
set_option maxRecDepth 20000 in
theorem gX2_rankAll_X2_countAbove : GoodIn wsX2_rankAll (wsV RX2 60 RX2 yX2_countAbove wsX2_countAbove) := goodIn_app (goodIn_of _ (by decide +kernel)) ggX2_rankAll_X2_countAbove
theorem dX2_rankAll_0 : decode cX2_rankAll 0 = .ok (.iconst 0, 1) := by decide +kernel
theorem dX2_rankAll_1 : decode cX2_rankAll 1 = .ok (.istore_n 2, 1) := by decide +kernel
theorem dX2_rankAll_2 : decode cX2_rankAll 2 = .ok (.iload_n 2, 1) := by decide +kernel
theorem dX2_rankAll_3 : decode cX2_rankAll 3 = .ok (.aload_n 0, 1) := by decide +kernel
theorem dX2_rankAll_4 : decode cX2_rankAll 4 = .ok (.getfield 30, 3) := by decide +kernel
theorem dX2_rankAll_7 : decode cX2_rankAll 7 = .ok (.if_icmp .ge 21, 3) := by decide +kernel
theorem dX2_rankAll_10 : decode cX2_rankAll 10 = .ok (.aload_n 0, 1) := by decide +kernel
theorem dX2_rankAll_11 : decode cX2_rankAll 11 = .ok (.getfield 24, 3) := by decide +kernel
theorem dX2_rankAll_14 : decode cX2_rankAll 14 = .ok (.iload_n 2, 1) := by decide +kernel
theorem dX2_rankAll_15 : decode cX2_rankAll 15 = .ok (.aload_n 0, 1) := by decide +kernel
theorem dX2_rankAll_16 : decode cX2_rankAll 16 = .ok (.iload_n 2, 1) := by decide +kernel
theorem dX2_rankAll_17 : decode cX2_rankAll 17 = .ok (.iload_n 1, 1) := by decide +kernel
theorem dX2_rankAll_18 : decode cX2_rankAll 18 = .ok (.invokevirtual 57, 3) := by decide +kernel
theorem dX2_rankAll_21 : decode cX2_rankAll 21 = .ok (.iastore, 1) := by decide +kernel
theorem dX2_rankAll_22 : decode cX2_rankAll 22 = .ok (.iinc 2 1, 3) := by decide +kernel
theorem dX2_rankAll_25 : decode cX2_rankAll 25 = .ok (.goto (-23), 3) := by decide +kernel
theorem dX2_rankAll_28 : decode cX2_rankAll 28 = .ok (.iconst 0, 1) := by decide +kernel
theorem dX2_rankAll_29 : decode cX2_rankAll 29 = .ok (.istore_n 2, 1) := by decide +kernel
theorem dX2_rankAll_30 : decode cX2_rankAll 30 = .ok (.iload_n 2, 1) := by decide +kernel
theorem dX2_rankAll_31 : decode cX2_rankAll 31 = .ok (.aload_n 0, 1) := by decide +kernel
theorem dX2_rankAll_32 : decode cX2_rankAll 32 = .ok (.getfield 30, 3) := by decide +kernel
theorem dX2_rankAll_35 : decode cX2_rankAll 35 = .ok (.if_icmp .ge 38, 3) := by decide +kernel
theorem dX2_rankAll_38 : decode cX2_rankAll 38 = .ok (.aload_n 0, 1) := by decide +kernel
theorem dX2_rankAll_39 : decode cX2_rankAll 39 = .ok (.getfield 27, 3) := by decide +kernel
theorem dX2_rankAll_42 : decode cX2_rankAll 42 = .ok (.iload_n 2, 1) := by decide +kernel
theorem dX2_rankAll_43 : decode cX2_rankAll 43 = .ok (.aload_n 0, 1) := by decide +kernel
theorem dX2_rankAll_44 : decode cX2_rankAll 44 = .ok (.getfield 9, 3) := by decide +kernel
theorem dX2_rankAll_47 : decode cX2_rankAll 47 = .ok (.iload_n 2, 1) := by decide +kernel
theorem dX2_rankAll_48 : decode cX2_rankAll 48 = .ok (.iaload, 1) := by decide +kernel
theorem dX2_rankAll_49 : decode cX2_rankAll 49 = .ok (.ifCond .ne 7, 3) := by decide +kernel
theorem dX2_rankAll_52 : decode cX2_rankAll 52 = .ok (.iconst (-1), 1) := by decide +kernel
theorem dX2_rankAll_53 : decode cX2_rankAll 53 = .ok (.goto 13, 3) := by decide +kernel
theorem dX2_rankAll_56 : decode cX2_rankAll 56 = .ok (.aload_n 0, 1) := by decide +kernel
theorem dX2_rankAll_57 : decode cX2_rankAll 57 = .ok (.aload_n 0, 1) := by decide +kernel
theorem dX2_rankAll_58 : decode cX2_rankAll 58 = .ok (.getfield 24, 3) := by decide +kernel
theorem dX2_rankAll_61 : decode cX2_rankAll 61 = .ok (.iload_n 2, 1) := by decide +kernel
theorem dX2_rankAll_62 : decode cX2_rankAll 62 = .ok (.iaload, 1) := by decide +kernel
theorem dX2_rankAll_63 : decode cX2_rankAll 63 = .ok (.invokevirtual 60, 3) := by decide +kernel
theorem dX2_rankAll_66 : decode cX2_rankAll 66 = .ok (.iastore, 1) := by decide +kernel
theorem dX2_rankAll_67 : decode cX2_rankAll 67 = .ok (.iinc 2 1, 3) := by decide +kernel
theorem dX2_rankAll_70 : decode cX2_rankAll 70 = .ok (.goto (-40), 3) := by decide +kernel
theorem dX2_rankAll_73 : decode cX2_rankAll 73 = .ok (.return_, 1) := by decide +kernel
theorem dX2_countAbove_0 : decode cX2_countAbove 0 = .ok (.iconst 0, 1) := by decide +kernel
theorem dX2_countAbove_1 : decode cX2_countAbove 1 = .ok (.istore_n 2, 1) := by decide +kernel
theorem dX2_countAbove_2 : decode cX2_countAbove 2 = .ok (.iconst 0, 1) := by decide +kernel
theorem dX2_countAbove_3 : decode cX2_countAbove 3 = .ok (.istore_n 3, 1) := by decide +kernel
theorem dX2_countAbove_4 : decode cX2_countAbove 4 = .ok (.iload_n 3, 1) := by decide +kernel
theorem dX2_countAbove_5 : decode cX2_countAbove 5 = .ok (.aload_n 0, 1) := by decide +kernel
theorem dX2_countAbove_6 : decode cX2_countAbove 6 = .ok (.getfield 30, 3) := by decide +kernel
theorem dX2_countAbove_9 : decode cX2_countAbove 9 = .ok (.if_icmp .ge 22, 3) := by decide +kernel
theorem dX2_countAbove_12 : decode cX2_countAbove 12 = .ok (.aload_n 0, 1) := by decide +kernel
theorem dX2_countAbove_13 : decode cX2_countAbove 13 = .ok (.getfield 24, 3) := by decide +kernel
theorem dX2_countAbove_16 : decode cX2_countAbove 16 = .ok (.iload_n 3, 1) := by decide +kernel
theorem dX2_countAbove_17 : decode cX2_countAbove 17 = .ok (.iaload, 1) := by decide +kernel
theorem dX2_countAbove_18 : decode cX2_countAbove 18 = .ok (.iload_n 1, 1) := by decide +kernel
theorem dX2_countAbove_19 : decode cX2_countAbove 19 = .ok (.if_icmp .le 6, 3) := by decide +kernel
theorem dX2_countAbove_22 : decode cX2_countAbove 22 = .ok (.iinc 2 1, 3) := by decide +kernel
theorem dX2_countAbove_25 : decode cX2_countAbove 25 = .ok (.iinc 3 1, 3) := by decide +kernel
theorem dX2_countAbove_28 : decode cX2_countAbove 28 = .ok (.goto (-24), 3) := by decide +kernel
theorem dX2_countAbove_31 : decode cX2_countAbove 31 = .ok (.iload_n 2, 1) := by decide +kernel
theorem dX2_countAbove_32 : decode cX2_countAbove 32 = .ok (.ireturn, 1) := by decide +kernel
theorem dX2_findRank_0 : decode cX2_findRank 0 = .ok (.iconst 0, 1) := by decide +kernel
theorem dX2_findRank_1 : decode cX2_findRank 1 = .ok (.istore_n 2, 1) := by decide +kernel
theorem dX2_findRank_2 : decode cX2_findRank 2 = .ok (.iload_n 2, 1) := by decide +kernel
theorem dX2_findRank_3 : decode cX2_findRank 3 = .ok (.aload_n 0, 1) := by decide +kernel
theorem dX2_findRank_4 : decode cX2_findRank 4 = .ok (.getfield 30, 3) := by decide +kernel
theorem dX2_findRank_7 : decode cX2_findRank 7 = .ok (.if_icmp .ge 21, 3) := by decide +kernel
theorem dX2_findRank_10 : decode cX2_findRank 10 = .ok (.aload_n 0, 1) := by decide +kernel
theorem dX2_findRank_11 : decode cX2_findRank 11 = .ok (.getfield 27, 3) := by decide +kernel
theorem dX2_findRank_14 : decode cX2_findRank 14 = .ok (.iload_n 2, 1) := by decide +kernel
theorem dX2_findRank_15 : decode cX2_findRank 15 = .ok (.iaload, 1) := by decide +kernel
theorem dX2_findRank_16 : decode cX2_findRank 16 = .ok (.iload_n 1, 1) := by decide +kernel
theorem dX2_findRank_17 : decode cX2_findRank 17 = .ok (.if_icmp .ne 5, 3) := by decide +kernel
theorem dX2_findRank_20 : decode cX2_findRank 20 = .ok (.iload_n 2, 1) := by decide +kernel
theorem dX2_findRank_21 : decode cX2_findRank 21 = .ok (.ireturn, 1) := by decide +kernel
theorem dX2_findRank_22 : decode cX2_findRank 22 = .ok (.iinc 2 1, 3) := by decide +kernel
theorem dX2_findRank_25 : decode cX2_findRank 25 = .ok (.goto (-23), 3) := by decide +kernel
theorem dX2_findRank_28 : decode cX2_findRank 28 = .ok (.iconst (-1), 1) := by decide +kernel
theorem dX2_findRank_29 : decode cX2_findRank 29 = .ok (.ireturn, 1) := by decide +kernel
set_option maxRecDepth 20000 in
theorem ggX2_ageAll_X2_age : GoodIn wsX2_ageAll wsX2_age := goodIn_r _ [6, 7, 8, 9, 10, 5, 11, 12, 13, 14, 15, 16, 17, 18, 19, 20, 21, 22, 23, 24, 25, 26, 27, 28, 29, 30, 31, 32, 33, 34, 35] (by decide +kernel) (by decide +kernel)
set_option maxRecDepth 20000 in
theorem gX2_ageAll_X2_age : GoodIn wsX2_ageAll (wsV RX2 63 RX2 yX2_age wsX2_age) := goodIn_app (goodIn_of _ (by decide +kernel)) ggX2_ageAll_X2_age
theorem dX2_ageAll_0 : decode cX2_ageAll 0 = .ok (.iconst 0, 1) := by decide +kernel
theorem dX2_ageAll_1 : decode cX2_ageAll 1 = .ok (.istore_n 2, 1) := by decide +kernel
theorem dX2_ageAll_2 : decode cX2_ageAll 2 = .ok (.iload_n 2, 1) := by decide +kernel
theorem dX2_ageAll_3 : decode cX2_ageAll 3 = .ok (.aload_n 0, 1) := by decide +kernel
theorem dX2_ageAll_4 : decode cX2_ageAll 4 = .ok (.getfield 30, 3) := by decide +kernel
theorem dX2_ageAll_7 : decode cX2_ageAll 7 = .ok (.if_icmp .ge 15, 3) := by decide +kernel
theorem dX2_ageAll_10 : decode cX2_ageAll 10 = .ok (.aload_n 0, 1) := by decide +kernel
theorem dX2_ageAll_11 : decode cX2_ageAll 11 = .ok (.iload_n 2, 1) := by decide +kernel
theorem dX2_ageAll_12 : decode cX2_ageAll 12 = .ok (.iload_n 1, 1) := by decide +kernel
theorem dX2_ageAll_13 : decode cX2_ageAll 13 = .ok (.invokevirtual 63, 3) := by decide +kernel
theorem dX2_ageAll_16 : decode cX2_ageAll 16 = .ok (.iinc 2 1, 3) := by decide +kernel
theorem dX2_ageAll_19 : decode cX2_ageAll 19 = .ok (.goto (-17), 3) := by decide +kernel
theorem dX2_ageAll_22 : decode cX2_ageAll 22 = .ok (.return_, 1) := by decide +kernel
set_option maxRecDepth 20000 in
theorem ggX2_age_X2_growIvy : GoodIn wsX2_age wsX2_growIvy := goodIn_r _ [6, 7, 1, 24, 25, 26, 27, 28, 29, 30] (by decide +kernel) (by decide +kernel)
set_option maxRecDepth 20000 in
theorem gX2_age_X2_growIvy : GoodIn wsX2_age (wsV RX2 67 RX2 yX2_growIvy wsX2_growIvy) := goodIn_app (goodIn_of _ (by decide +kernel)) ggX2_age_X2_growIvy
set_option maxRecDepth 20000 in
theorem ggX2_age_X0_brightnessOn : GoodIn wsX2_age wsX0_brightnessOn := goodIn_r _ [11, 12, 13, 10, 14] (by decide +kernel) (by decide +kernel)
set_option maxRecDepth 20000 in
theorem gX2_age_X0_brightnessOn : GoodIn wsX2_age (va_wsS RX2 70 yX0_brightnessOn wsX0_brightnessOn) := goodIn_app (goodIn_of _ (by decide +kernel)) ggX2_age_X0_brightnessOn
set_option maxRecDepth 20000 in
theorem ggX2_age_X2_moveGhosts : GoodIn wsX2_age wsX2_moveGhosts := goodIn_r _ [18, 1, 19, 20, 21, 22, 5, 23, 7, 24, 25, 26, 27, 28, 29, 30] (by decide +kernel) (by decide +kernel)
set_option maxRecDepth 20000 in
theorem gX2_age_X2_moveGhosts : GoodIn wsX2_age (wsV RX2 75 RX2 yX2_moveGhosts wsX2_moveGhosts) := goodIn_app (goodIn_of _ (by decide +kernel)) ggX2_age_X2_moveGhosts
theorem dX2_age_0 : decode cX2_age 0 = .ok (.aload_n 0, 1) := by decide +kernel
theorem dX2_age_1 : decode cX2_age 1 = .ok (.getfield 9, 3) := by decide +kernel
theorem dX2_age_4 : decode cX2_age 4 = .ok (.iload_n 1, 1) := by decide +kernel
theorem dX2_age_5 : decode cX2_age 5 = .ok (.iaload, 1) := by decide +kernel
theorem dX2_age_6 : decode cX2_age 6 = .ok (.ifCond .le 9, 3) := by decide +kernel
theorem dX2_age_9 : decode cX2_age 9 = .ok (.aload_n 0, 1) := by decide +kernel
theorem dX2_age_10 : decode cX2_age 10 = .ok (.iload_n 1, 1) := by decide +kernel
theorem dX2_age_11 : decode cX2_age 11 = .ok (.iload_n 2, 1) := by decide +kernel
theorem dX2_age_12 : decode cX2_age 12 = .ok (.invokevirtual 67, 3) := by decide +kernel
theorem dX2_age_15 : decode cX2_age 15 = .ok (.aload_n 0, 1) := by decide +kernel
theorem dX2_age_16 : decode cX2_age 16 = .ok (.iload_n 1, 1) := by decide +kernel
theorem dX2_age_17 : decode cX2_age 17 = .ok (.iload_n 2, 1) := by decide +kernel
theorem dX2_age_18 : decode cX2_age 18 = .ok (.invokestatic 70, 3) := by decide +kernel
theorem dX2_age_21 : decode cX2_age 21 = .ok (.invokevirtual 75, 3) := by decide +kernel
theorem dX2_age_24 : decode cX2_age 24 = .ok (.return_, 1) := by decide +kernel
theorem dX2_growIvy_0 : decode cX2_growIvy 0 = .ok (.iload_n 2, 1) := by decide +kernel
theorem dX2_growIvy_1 : decode cX2_growIvy 1 = .ok (.iconst 3, 1) := by decide +kernel
theorem dX2_growIvy_2 : decode cX2_growIvy 2 = .ok (.irem, 1) := by decide +kernel
theorem dX2_growIvy_3 : decode cX2_growIvy 3 = .ok (.iconst 2, 1) := by decide +kernel
theorem dX2_growIvy_4 : decode cX2_growIvy 4 = .ok (.if_icmp .ne 24, 3) := by decide +kernel
theorem dX2_growIvy_7 : decode cX2_growIvy 7 = .ok (.aload_n 0, 1) := by decide +kernel
theorem dX2_growIvy_8 : decode cX2_growIvy 8 = .ok (.getfield 15, 3) := by decide +kernel
theorem dX2_growIvy_11 : decode cX2_growIvy 11 = .ok (.iload_n 1, 1) := by decide +kernel
theorem dX2_growIvy_12 : decode cX2_growIvy 12 = .ok (.iaload, 1) := by decide +kernel
theorem dX2_growIvy_13 : decode cX2_growIvy 13 = .ok (.bipush 12, 2) := by decide +kernel
theorem dX2_growIvy_15 : decode cX2_growIvy 15 = .ok (.if_icmp .ge 13, 3) := by decide +kernel
theorem dX2_growIvy_18 : decode cX2_growIvy 18 = .ok (.aload_n 0, 1) := by decide +kernel
theorem dX2_growIvy_19 : decode cX2_growIvy 19 = .ok (.getfield 15, 3) := by decide +kernel
theorem dX2_growIvy_22 : decode cX2_growIvy 22 = .ok (.iload_n 1, 1) := by decide +kernel
theorem dX2_growIvy_23 : decode cX2_growIvy 23 = .ok (.dup2, 1) := by decide +kernel
theorem dX2_growIvy_24 : decode cX2_growIvy 24 = .ok (.iaload, 1) := by decide +kernel
theorem dX2_growIvy_25 : decode cX2_growIvy 25 = .ok (.iconst 1, 1) := by decide +kernel
theorem dX2_growIvy_26 : decode cX2_growIvy 26 = .ok (.iadd, 1) := by decide +kernel
theorem dX2_growIvy_27 : decode cX2_growIvy 27 = .ok (.iastore, 1) := by decide +kernel
theorem dX2_growIvy_28 : decode cX2_growIvy 28 = .ok (.aload_n 0, 1) := by decide +kernel
theorem dX2_growIvy_29 : decode cX2_growIvy 29 = .ok (.getfield 15, 3) := by decide +kernel
theorem dX2_growIvy_32 : decode cX2_growIvy 32 = .ok (.iload_n 1, 1) := by decide +kernel
theorem dX2_growIvy_33 : decode cX2_growIvy 33 = .ok (.iaload, 1) := by decide +kernel
theorem dX2_growIvy_34 : decode cX2_growIvy 34 = .ok (.bipush 10, 2) := by decide +kernel
theorem dX2_growIvy_36 : decode cX2_growIvy 36 = .ok (.if_icmp .lt 13, 3) := by decide +kernel
theorem dX2_growIvy_39 : decode cX2_growIvy 39 = .ok (.aload_n 0, 1) := by decide +kernel
theorem dX2_growIvy_40 : decode cX2_growIvy 40 = .ok (.getfield 9, 3) := by decide +kernel
theorem dX2_growIvy_43 : decode cX2_growIvy 43 = .ok (.iload_n 1, 1) := by decide +kernel
theorem dX2_growIvy_44 : decode cX2_growIvy 44 = .ok (.dup2, 1) := by decide +kernel
theorem dX2_growIvy_45 : decode cX2_growIvy 45 = .ok (.iaload, 1) := by decide +kernel
theorem dX2_growIvy_46 : decode cX2_growIvy 46 = .ok (.iconst 1, 1) := by decide +kernel
theorem dX2_growIvy_47 : decode cX2_growIvy 47 = .ok (.isub, 1) := by decide +kernel
theorem dX2_growIvy_48 : decode cX2_growIvy 48 = .ok (.iastore, 1) := by decide +kernel
theorem dX2_growIvy_49 : decode cX2_growIvy 49 = .ok (.return_, 1) := by decide +kernel
set_option maxRecDepth 20000 in
theorem ggX2_moveGhosts_X2_grade : GoodIn wsX2_moveGhosts wsX2_grade := goodIn_r _ [7, 8, 9, 10, 11, 12, 13, 14, 15] (by decide +kernel) (by decide +kernel)
set_option maxRecDepth 20000 in
theorem gX2_moveGhosts_X2_grade : GoodIn wsX2_moveGhosts (wsV RX2 50 RX2 yX2_grade wsX2_grade) := goodIn_app (goodIn_of _ (by decide +kernel)) ggX2_moveGhosts_X2_grade
theorem dX2_moveGhosts_0 : decode cX2_moveGhosts 0 = .ok (.aload_n 0, 1) := by decide +kernel
theorem dX2_moveGhosts_1 : decode cX2_moveGhosts 1 = .ok (.getfield 9, 3) := by decide +kernel
theorem dX2_moveGhosts_4 : decode cX2_moveGhosts 4 = .ok (.iload_n 1, 1) := by decide +kernel
theorem dX2_moveGhosts_5 : decode cX2_moveGhosts 5 = .ok (.iaload, 1) := by decide +kernel
theorem dX2_moveGhosts_6 : decode cX2_moveGhosts 6 = .ok (.ifCond .ne 7, 3) := by decide +kernel
theorem dX2_moveGhosts_9 : decode cX2_moveGhosts 9 = .ok (.iconst 1, 1) := by decide +kernel
theorem dX2_moveGhosts_10 : decode cX2_moveGhosts 10 = .ok (.goto 4, 3) := by decide +kernel
theorem dX2_moveGhosts_13 : decode cX2_moveGhosts 13 = .ok (.iconst 0, 1) := by decide +kernel
theorem dX2_moveGhosts_14 : decode cX2_moveGhosts 14 = .ok (.istore_n 3, 1) := by decide +kernel
theorem dX2_moveGhosts_15 : decode cX2_moveGhosts 15 = .ok (.iload_n 2, 1) := by decide +kernel
theorem dX2_moveGhosts_16 : decode cX2_moveGhosts 16 = .ok (.iconst 4, 1) := by decide +kernel
theorem dX2_moveGhosts_17 : decode cX2_moveGhosts 17 = .ok (.if_icmp .ne 39, 3) := by decide +kernel
theorem dX2_moveGhosts_20 : decode cX2_moveGhosts 20 = .ok (.iload_n 3, 1) := by decide +kernel
theorem dX2_moveGhosts_21 : decode cX2_moveGhosts 21 = .ok (.ifCond .ne 70, 3) := by decide +kernel
theorem dX2_moveGhosts_24 : decode cX2_moveGhosts 24 = .ok (.aload_n 0, 1) := by decide +kernel
theorem dX2_moveGhosts_25 : decode cX2_moveGhosts 25 = .ok (.iload_n 1, 1) := by decide +kernel
theorem dX2_moveGhosts_26 : decode cX2_moveGhosts 26 = .ok (.invokevirtual 50, 3) := by decide +kernel
theorem dX2_moveGhosts_29 : decode cX2_moveGhosts 29 = .ok (.iconst 3, 1) := by decide +kernel
theorem dX2_moveGhosts_30 : decode cX2_moveGhosts 30 = .ok (.if_icmp .ne 61, 3) := by decide +kernel
theorem dX2_moveGhosts_33 : decode cX2_moveGhosts 33 = .ok (.aload_n 0, 1) := by decide +kernel
theorem dX2_moveGhosts_34 : decode cX2_moveGhosts 34 = .ok (.getfield 18, 3) := by decide +kernel
theorem dX2_moveGhosts_37 : decode cX2_moveGhosts 37 = .ok (.iload_n 1, 1) := by decide +kernel
theorem dX2_moveGhosts_38 : decode cX2_moveGhosts 38 = .ok (.iaload, 1) := by decide +kernel
theorem dX2_moveGhosts_39 : decode cX2_moveGhosts 39 = .ok (.iconst 5, 1) := by decide +kernel
theorem dX2_moveGhosts_40 : decode cX2_moveGhosts 40 = .ok (.if_icmp .ge 51, 3) := by decide +kernel
theorem dX2_moveGhosts_43 : decode cX2_moveGhosts 43 = .ok (.aload_n 0, 1) := by decide +kernel
theorem dX2_moveGhosts_44 : decode cX2_moveGhosts 44 = .ok (.getfield 18, 3) := by decide +kernel
theorem dX2_moveGhosts_47 : decode cX2_moveGhosts 47 = .ok (.iload_n 1, 1) := by decide +kernel
theorem dX2_moveGhosts_48 : decode cX2_moveGhosts 48 = .ok (.dup2, 1) := by decide +kernel
theorem dX2_moveGhosts_49 : decode cX2_moveGhosts 49 = .ok (.iaload, 1) := by decide +kernel
theorem dX2_moveGhosts_50 : decode cX2_moveGhosts 50 = .ok (.iconst 1, 1) := by decide +kernel
theorem dX2_moveGhosts_51 : decode cX2_moveGhosts 51 = .ok (.iadd, 1) := by decide +kernel
theorem dX2_moveGhosts_52 : decode cX2_moveGhosts 52 = .ok (.iastore, 1) := by decide +kernel
theorem dX2_moveGhosts_53 : decode cX2_moveGhosts 53 = .ok (.goto 38, 3) := by decide +kernel
theorem dX2_moveGhosts_56 : decode cX2_moveGhosts 56 = .ok (.iload_n 2, 1) := by decide +kernel
theorem dX2_moveGhosts_57 : decode cX2_moveGhosts 57 = .ok (.ifCond .ne 34, 3) := by decide +kernel
theorem dX2_moveGhosts_60 : decode cX2_moveGhosts 60 = .ok (.aload_n 0, 1) := by decide +kernel
theorem dX2_moveGhosts_61 : decode cX2_moveGhosts 61 = .ok (.getfield 18, 3) := by decide +kernel
theorem dX2_moveGhosts_64 : decode cX2_moveGhosts 64 = .ok (.iload_n 1, 1) := by decide +kernel
theorem dX2_moveGhosts_65 : decode cX2_moveGhosts 65 = .ok (.iaload, 1) := by decide +kernel
theorem dX2_moveGhosts_66 : decode cX2_moveGhosts 66 = .ok (.ifCond .le 25, 3) := by decide +kernel
theorem dX2_moveGhosts_69 : decode cX2_moveGhosts 69 = .ok (.iload_n 3, 1) := by decide +kernel
theorem dX2_moveGhosts_70 : decode cX2_moveGhosts 70 = .ok (.ifCond .ne 11, 3) := by decide +kernel
theorem dX2_moveGhosts_73 : decode cX2_moveGhosts 73 = .ok (.aload_n 0, 1) := by decide +kernel
theorem dX2_moveGhosts_74 : decode cX2_moveGhosts 74 = .ok (.iload_n 1, 1) := by decide +kernel
theorem dX2_moveGhosts_75 : decode cX2_moveGhosts 75 = .ok (.invokevirtual 50, 3) := by decide +kernel
theorem dX2_moveGhosts_78 : decode cX2_moveGhosts 78 = .ok (.ifCond .ne 13, 3) := by decide +kernel
theorem dX2_moveGhosts_81 : decode cX2_moveGhosts 81 = .ok (.aload_n 0, 1) := by decide +kernel
theorem dX2_moveGhosts_82 : decode cX2_moveGhosts 82 = .ok (.getfield 18, 3) := by decide +kernel
theorem dX2_moveGhosts_85 : decode cX2_moveGhosts 85 = .ok (.iload_n 1, 1) := by decide +kernel
theorem dX2_moveGhosts_86 : decode cX2_moveGhosts 86 = .ok (.dup2, 1) := by decide +kernel
theorem dX2_moveGhosts_87 : decode cX2_moveGhosts 87 = .ok (.iaload, 1) := by decide +kernel
theorem dX2_moveGhosts_88 : decode cX2_moveGhosts 88 = .ok (.iconst 1, 1) := by decide +kernel
theorem dX2_moveGhosts_89 : decode cX2_moveGhosts 89 = .ok (.isub, 1) := by decide +kernel
theorem dX2_moveGhosts_90 : decode cX2_moveGhosts 90 = .ok (.iastore, 1) := by decide +kernel
theorem dX2_moveGhosts_91 : decode cX2_moveGhosts 91 = .ok (.return_, 1) := by decide +kernel
theorem dX3_init_0 : decode cX3_init 0 = .ok (.aload_n 0, 1) := by decide +kernel
theorem dX3_init_1 : decode cX3_init 1 = .ok (.invokespecial 3, 3) := by decide +kernel
theorem dX3_init_4 : decode cX3_init 4 = .ok (.aload_n 0, 1) := by decide +kernel
theorem dX3_init_5 : decode cX3_init 5 = .ok (.bipush 30, 2) := by decide +kernel
theorem dX3_init_7 : decode cX3_init 7 = .ok (.newarray .int, 2) := by decide +kernel
theorem dX3_init_9 : decode cX3_init 9 = .ok (.putfield 9, 3) := by decide +kernel
theorem dX3_init_12 : decode cX3_init 12 = .ok (.aload_n 0, 1) := by decide +kernel
theorem dX3_init_13 : decode cX3_init 13 = .ok (.bipush 30, 2) := by decide +kernel
theorem dX3_init_15 : decode cX3_init 15 = .ok (.newarray .int, 2) := by decide +kernel
theorem dX3_init_17 : decode cX3_init 17 = .ok (.putfield 15, 3) := by decide +kernel
theorem dX3_init_20 : decode cX3_init 20 = .ok (.aload_n 0, 1) := by decide +kernel
theorem dX3_init_21 : decode cX3_init 21 = .ok (.bipush 30, 2) := by decide +kernel
theorem dX3_init_23 : decode cX3_init 23 = .ok (.newarray .int, 2) := by decide +kernel
theorem dX3_init_25 : decode cX3_init 25 = .ok (.putfield 18, 3) := by decide +kernel
theorem dX3_init_28 : decode cX3_init 28 = .ok (.aload_n 0, 1) := by decide +kernel
theorem dX3_init_29 : decode cX3_init 29 = .ok (.bipush 30, 2) := by decide +kernel
theorem dX3_init_31 : decode cX3_init 31 = .ok (.newarray .int, 2) := by decide +kernel
theorem dX3_init_33 : decode cX3_init 33 = .ok (.putfield 21, 3) := by decide +kernel
theorem dX3_init_36 : decode cX3_init 36 = .ok (.aload_n 0, 1) := by decide +kernel
theorem dX3_init_37 : decode cX3_init 37 = .ok (.iconst 0, 1) := by decide +kernel
theorem dX3_init_38 : decode cX3_init 38 = .ok (.putfield 24, 3) := by decide +kernel
theorem dX3_init_41 : decode cX3_init 41 = .ok (.return_, 1) := by decide +kernel
theorem dX3_has_0 : decode cX3_has 0 = .ok (.iload_n 1, 1) := by decide +kernel
theorem dX3_has_1 : decode cX3_has 1 = .ok (.ifCond .lt 15, 3) := by decide +kernel
theorem dX3_has_4 : decode cX3_has 4 = .ok (.iload_n 1, 1) := by decide +kernel
theorem dX3_has_5 : decode cX3_has 5 = .ok (.aload_n 0, 1) := by decide +kernel
theorem dX3_has_6 : decode cX3_has 6 = .ok (.getfield 24, 3) := by decide +kernel
theorem dX3_has_9 : decode cX3_has 9 = .ok (.if_icmp .ge 7, 3) := by decide +kernel
theorem dX3_has_12 : decode cX3_has 12 = .ok (.iconst 1, 1) := by decide +kernel
theorem dX3_has_13 : decode cX3_has 13 = .ok (.goto 4, 3) := by decide +kernel
theorem dX3_has_16 : decode cX3_has 16 = .ok (.iconst 0, 1) := by decide +kernel
theorem dX3_has_17 : decode cX3_has 17 = .ok (.ireturn, 1) := by decide +kernel
theorem dX3_issue_0 : decode cX3_issue 0 = .ok (.aload_n 0, 1) := by decide +kernel
theorem dX3_issue_1 : decode cX3_issue 1 = .ok (.getfield 24, 3) := by decide +kernel
theorem dX3_issue_4 : decode cX3_issue 4 = .ok (.istore 4, 2) := by decide +kernel
theorem dX3_issue_6 : decode cX3_issue 6 = .ok (.iload 4, 2) := by decide +kernel
theorem dX3_issue_8 : decode cX3_issue 8 = .ok (.bipush 30, 2) := by decide +kernel
theorem dX3_issue_10 : decode cX3_issue 10 = .ok (.if_icmp .lt 5, 3) := by decide +kernel
theorem dX3_issue_13 : decode cX3_issue 13 = .ok (.iconst (-1), 1) := by decide +kernel
theorem dX3_issue_14 : decode cX3_issue 14 = .ok (.ireturn, 1) := by decide +kernel
theorem dX3_issue_15 : decode cX3_issue 15 = .ok (.aload_n 0, 1) := by decide +kernel
theorem dX3_issue_16 : decode cX3_issue 16 = .ok (.getfield 9, 3) := by decide +kernel
theorem dX3_issue_19 : decode cX3_issue 19 = .ok (.iload 4, 2) := by decide +kernel
theorem dX3_issue_21 : decode cX3_issue 21 = .ok (.iload_n 1, 1) := by decide +kernel
theorem dX3_issue_22 : decode cX3_issue 22 = .ok (.iastore, 1) := by decide +kernel
theorem dX3_issue_23 : decode cX3_issue 23 = .ok (.aload_n 0, 1) := by decide +kernel
theorem dX3_issue_24 : decode cX3_issue 24 = .ok (.getfield 15, 3) := by decide +kernel
theorem dX3_issue_27 : decode cX3_issue 27 = .ok (.iload 4, 2) := by decide +kernel
theorem dX3_issue_29 : decode cX3_issue 29 = .ok (.iload_n 2, 1) := by decide +kernel
theorem dX3_issue_30 : decode cX3_issue 30 = .ok (.iastore, 1) := by decide +kernel
theorem dX3_issue_31 : decode cX3_issue 31 = .ok (.aload_n 0, 1) := by decide +kernel
theorem dX3_issue_32 : decode cX3_issue 32 = .ok (.getfield 18, 3) := by decide +kernel
theorem dX3_issue_35 : decode cX3_issue 35 = .ok (.iload 4, 2) := by decide +kernel
theorem dX3_issue_37 : decode cX3_issue 37 = .ok (.iload_n 3, 1) := by decide +kernel
theorem dX3_issue_38 : decode cX3_issue 38 = .ok (.iastore, 1) := by decide +kernel
theorem dX3_issue_39 : decode cX3_issue 39 = .ok (.aload_n 0, 1) := by decide +kernel
theorem dX3_issue_40 : decode cX3_issue 40 = .ok (.getfield 21, 3) := by decide +kernel
theorem dX3_issue_43 : decode cX3_issue 43 = .ok (.iload 4, 2) := by decide +kernel
theorem dX3_issue_45 : decode cX3_issue 45 = .ok (.iconst 0, 1) := by decide +kernel
theorem dX3_issue_46 : decode cX3_issue 46 = .ok (.iastore, 1) := by decide +kernel
theorem dX3_issue_47 : decode cX3_issue 47 = .ok (.aload_n 0, 1) := by decide +kernel
theorem dX3_issue_48 : decode cX3_issue 48 = .ok (.dup, 1) := by decide +kernel
theorem dX3_issue_49 : decode cX3_issue 49 = .ok (.getfield 24, 3) := by decide +kernel
theorem dX3_issue_52 : decode cX3_issue 52 = .ok (.iconst 1, 1) := by decide +kernel
theorem dX3_issue_53 : decode cX3_issue 53 = .ok (.iadd, 1) := by decide +kernel
theorem dX3_issue_54 : decode cX3_issue 54 = .ok (.putfield 24, 3) := by decide +kernel
theorem dX3_issue_57 : decode cX3_issue 57 = .ok (.iload 4, 2) := by decide +kernel
theorem dX3_issue_59 : decode cX3_issue 59 = .ok (.ireturn, 1) := by decide +kernel
set_option maxRecDepth 20000 in
theorem ggX3_settle_X2_stands : GoodIn wsX3_settle wsX2_stands := goodIn_r _ [10, 11, 12, 13, 14, 9, 15, 16, 22, 23, 24, 25, 26, 27, 28] (by decide +kernel) (by decide +kernel)
set_option maxRecDepth 20000 in
theorem gX3_settle_X2_stands : GoodIn wsX3_settle (wsV RX3 34 RX2 yX2_stands wsX2_stands) := goodIn_app (goodIn_of _ (by decide +kernel)) ggX3_settle_X2_stands
theorem dX3_settle_0 : decode cX3_settle 0 = .ok (.iconst 0, 1) := by decide +kernel
theorem dX3_settle_1 : decode cX3_settle 1 = .ok (.istore_n 3, 1) := by decide +kernel
theorem dX3_settle_2 : decode cX3_settle 2 = .ok (.iconst 0, 1) := by decide +kernel
theorem dX3_settle_3 : decode cX3_settle 3 = .ok (.istore 4, 2) := by decide +kernel
theorem dX3_settle_5 : decode cX3_settle 5 = .ok (.iload 4, 2) := by decide +kernel
theorem dX3_settle_7 : decode cX3_settle 7 = .ok (.aload_n 0, 1) := by decide +kernel
theorem dX3_settle_8 : decode cX3_settle 8 = .ok (.getfield 24, 3) := by decide +kernel
theorem dX3_settle_11 : decode cX3_settle 11 = .ok (.if_icmp .ge 76, 3) := by decide +kernel
theorem dX3_settle_14 : decode cX3_settle 14 = .ok (.aload_n 0, 1) := by decide +kernel
theorem dX3_settle_15 : decode cX3_settle 15 = .ok (.getfield 21, 3) := by decide +kernel
theorem dX3_settle_18 : decode cX3_settle 18 = .ok (.iload 4, 2) := by decide +kernel
theorem dX3_settle_20 : decode cX3_settle 20 = .ok (.iaload, 1) := by decide +kernel
theorem dX3_settle_21 : decode cX3_settle 21 = .ok (.ifCond .ne 60, 3) := by decide +kernel
theorem dX3_settle_24 : decode cX3_settle 24 = .ok (.aload_n 0, 1) := by decide +kernel
theorem dX3_settle_25 : decode cX3_settle 25 = .ok (.getfield 15, 3) := by decide +kernel
theorem dX3_settle_28 : decode cX3_settle 28 = .ok (.iload 4, 2) := by decide +kernel
theorem dX3_settle_30 : decode cX3_settle 30 = .ok (.iaload, 1) := by decide +kernel
theorem dX3_settle_31 : decode cX3_settle 31 = .ok (.iload_n 1, 1) := by decide +kernel
theorem dX3_settle_32 : decode cX3_settle 32 = .ok (.if_icmp .eq 6, 3) := by decide +kernel
theorem dX3_settle_35 : decode cX3_settle 35 = .ok (.goto 46, 3) := by decide +kernel
theorem dX3_settle_38 : decode cX3_settle 38 = .ok (.aload_n 2, 1) := by decide +kernel
theorem dX3_settle_39 : decode cX3_settle 39 = .ok (.aload_n 0, 1) := by decide +kernel
theorem dX3_settle_40 : decode cX3_settle 40 = .ok (.getfield 9, 3) := by decide +kernel
theorem dX3_settle_43 : decode cX3_settle 43 = .ok (.iload 4, 2) := by decide +kernel
theorem dX3_settle_45 : decode cX3_settle 45 = .ok (.iaload, 1) := by decide +kernel
theorem dX3_settle_46 : decode cX3_settle 46 = .ok (.invokevirtual 34, 3) := by decide +kernel
theorem dX3_settle_49 : decode cX3_settle 49 = .ok (.ifCond .eq 14, 3) := by decide +kernel
theorem dX3_settle_52 : decode cX3_settle 52 = .ok (.aload_n 0, 1) := by decide +kernel
theorem dX3_settle_53 : decode cX3_settle 53 = .ok (.getfield 21, 3) := by decide +kernel
theorem dX3_settle_56 : decode cX3_settle 56 = .ok (.iload 4, 2) := by decide +kernel
theorem dX3_settle_58 : decode cX3_settle 58 = .ok (.iconst 1, 1) := by decide +kernel
theorem dX3_settle_59 : decode cX3_settle 59 = .ok (.iastore, 1) := by decide +kernel
theorem dX3_settle_60 : decode cX3_settle 60 = .ok (.goto 21, 3) := by decide +kernel
theorem dX3_settle_63 : decode cX3_settle 63 = .ok (.aload_n 0, 1) := by decide +kernel
theorem dX3_settle_64 : decode cX3_settle 64 = .ok (.getfield 21, 3) := by decide +kernel
theorem dX3_settle_67 : decode cX3_settle 67 = .ok (.iload 4, 2) := by decide +kernel
theorem dX3_settle_69 : decode cX3_settle 69 = .ok (.iconst 2, 1) := by decide +kernel
theorem dX3_settle_70 : decode cX3_settle 70 = .ok (.iastore, 1) := by decide +kernel
theorem dX3_settle_71 : decode cX3_settle 71 = .ok (.iload_n 3, 1) := by decide +kernel
theorem dX3_settle_72 : decode cX3_settle 72 = .ok (.aload_n 0, 1) := by decide +kernel
theorem dX3_settle_73 : decode cX3_settle 73 = .ok (.getfield 18, 3) := by decide +kernel
theorem dX3_settle_76 : decode cX3_settle 76 = .ok (.iload 4, 2) := by decide +kernel
theorem dX3_settle_78 : decode cX3_settle 78 = .ok (.iaload, 1) := by decide +kernel
theorem dX3_settle_79 : decode cX3_settle 79 = .ok (.iadd, 1) := by decide +kernel
theorem dX3_settle_80 : decode cX3_settle 80 = .ok (.istore_n 3, 1) := by decide +kernel
theorem dX3_settle_81 : decode cX3_settle 81 = .ok (.iinc 4 1, 3) := by decide +kernel
theorem dX3_settle_84 : decode cX3_settle 84 = .ok (.goto (-79), 3) := by decide +kernel
theorem dX3_settle_87 : decode cX3_settle 87 = .ok (.iload_n 3, 1) := by decide +kernel
theorem dX3_settle_88 : decode cX3_settle 88 = .ok (.ireturn, 1) := by decide +kernel
set_option maxRecDepth 20000 in
theorem ggX4_init_X1_init : GoodIn wsX4_init wsX1_init := goodIn_r _ [10, 11, 2, 3, 12, 13, 14, 15, 16, 17, 18, 19, 20, 21, 22, 23, 24, 25, 26, 27, 28, 29, 30, 31, 32, 33, 34, 35, 36, 37, 38, 39, 40, 41, 49, 50, 51, 52, 53, 54, 55, 42, 43, 44, 45, 46, 56, 57, 58, 59, 60] (by decide +kernel) (by decide +kernel)
set_option maxRecDepth 20000 in
theorem gX4_init_X1_init_n9 : GoodIn wsX4_init (wsX1_init) := ggX4_init_X1_init
theorem dX4_init_0 : decode cX4_init 0 = .ok (.aload_n 0, 1) := by decide +kernel
theorem dX4_init_1 : decode cX4_init 1 = .ok (.invokespecial 1, 3) := by decide +kernel
theorem dX4_init_4 : decode cX4_init 4 = .ok (.aload_n 0, 1) := by decide +kernel
theorem dX4_init_5 : decode cX4_init 5 = .ok (.new 7, 3) := by decide +kernel
theorem dX4_init_8 : decode cX4_init 8 = .ok (.dup, 1) := by decide +kernel
theorem dX4_init_9 : decode cX4_init 9 = .ok (.invokespecial 9, 3) := by decide +kernel
theorem dX4_init_12 : decode cX4_init 12 = .ok (.putfield 10, 3) := by decide +kernel
theorem dX4_init_15 : decode cX4_init 15 = .ok (.aload_n 0, 1) := by decide +kernel
theorem dX4_init_16 : decode cX4_init 16 = .ok (.new 7, 3) := by decide +kernel
theorem dX4_init_19 : decode cX4_init 19 = .ok (.dup, 1) := by decide +kernel
theorem dX4_init_20 : decode cX4_init 20 = .ok (.invokespecial 9, 3) := by decide +kernel
theorem dX4_init_23 : decode cX4_init 23 = .ok (.putfield 16, 3) := by decide +kernel
theorem dX4_init_26 : decode cX4_init 26 = .ok (.return_, 1) := by decide +kernel
set_option maxRecDepth 20000 in
theorem ggX4_addRuin_X4_isWithin : GoodIn wsX4_addRuin wsX4_isWithin := goodIn_r _ [11] (by decide +kernel) (by decide +kernel)
set_option maxRecDepth 20000 in
theorem gX4_addRuin_X4_isWithin : GoodIn wsX4_addRuin (va_wsS RX4 19 yX4_isWithin wsX4_isWithin) := goodIn_app (goodIn_of _ (by decide +kernel)) ggX4_addRuin_X4_isWithin
set_option maxRecDepth 20000 in
theorem ggX4_addRuin_X2_build : GoodIn wsX4_addRuin wsX2_build := goodIn_r _ [16, 17, 18, 19, 20, 21, 29, 30, 31, 32, 33, 34, 35] (by decide +kernel) (by decide +kernel)
set_option maxRecDepth 20000 in
theorem gX4_addRuin_X2_build : GoodIn wsX4_addRuin (wsV RX4 45 RX2 yX2_build wsX2_build) := goodIn_app (goodIn_of _ (by decide +kernel)) ggX4_addRuin_X2_build
theorem dX4_addRuin_0 : decode cX4_addRuin 0 = .ok (.iload_n 1, 1) := by decide +kernel
theorem dX4_addRuin_1 : decode cX4_addRuin 1 = .ok (.iconst 1, 1) := by decide +kernel
theorem dX4_addRuin_2 : decode cX4_addRuin 2 = .ok (.bipush 20, 2) := by decide +kernel
theorem dX4_addRuin_4 : decode cX4_addRuin 4 = .ok (.invokestatic 19, 3) := by decide +kernel
theorem dX4_addRuin_7 : decode cX4_addRuin 7 = .ok (.ifCond .eq 33, 3) := by decide +kernel
theorem dX4_addRuin_10 : decode cX4_addRuin 10 = .ok (.iload_n 2, 1) := by decide +kernel
theorem dX4_addRuin_11 : decode cX4_addRuin 11 = .ok (.iconst 0, 1) := by decide +kernel
theorem dX4_addRuin_12 : decode cX4_addRuin 12 = .ok (.bipush 12, 2) := by decide +kernel
theorem dX4_addRuin_14 : decode cX4_addRuin 14 = .ok (.invokestatic 19, 3) := by decide +kernel
theorem dX4_addRuin_17 : decode cX4_addRuin 17 = .ok (.ifCond .eq 23, 3) := by decide +kernel
theorem dX4_addRuin_20 : decode cX4_addRuin 20 = .ok (.iload_n 3, 1) := by decide +kernel
theorem dX4_addRuin_21 : decode cX4_addRuin 21 = .ok (.iconst 0, 1) := by decide +kernel
theorem dX4_addRuin_22 : decode cX4_addRuin 22 = .ok (.iconst 5, 1) := by decide +kernel
theorem dX4_addRuin_23 : decode cX4_addRuin 23 = .ok (.invokestatic 19, 3) := by decide +kernel
theorem dX4_addRuin_26 : decode cX4_addRuin 26 = .ok (.ifCond .eq 14, 3) := by decide +kernel
theorem dX4_addRuin_29 : decode cX4_addRuin 29 = .ok (.iload 4, 2) := by decide +kernel
theorem dX4_addRuin_31 : decode cX4_addRuin 31 = .ok (.iconst 0, 1) := by decide +kernel
theorem dX4_addRuin_32 : decode cX4_addRuin 32 = .ok (.bipush 9, 2) := by decide +kernel
theorem dX4_addRuin_34 : decode cX4_addRuin 34 = .ok (.invokestatic 19, 3) := by decide +kernel
theorem dX4_addRuin_37 : decode cX4_addRuin 37 = .ok (.ifCond .ne 13, 3) := by decide +kernel
theorem dX4_addRuin_40 : decode cX4_addRuin 40 = .ok (.new 23, 3) := by decide +kernel
theorem dX4_addRuin_43 : decode cX4_addRuin 43 = .ok (.dup, 1) := by decide +kernel
theorem dX4_addRuin_44 : decode cX4_addRuin 44 = .ok (.ldc 25, 2) := by decide +kernel
theorem dX4_addRuin_46 : decode cX4_addRuin 46 = .ok (.invokespecial 27, 3) := by decide +kernel
theorem dX4_addRuin_49 : decode cX4_addRuin 49 = .ok (.athrow, 1) := by decide +kernel
theorem dX4_addRuin_50 : decode cX4_addRuin 50 = .ok (.aload_n 0, 1) := by decide +kernel
theorem dX4_addRuin_51 : decode cX4_addRuin 51 = .ok (.getfield 10, 3) := by decide +kernel
theorem dX4_addRuin_54 : decode cX4_addRuin 54 = .ok (.getfield 30, 3) := by decide +kernel
theorem dX4_addRuin_57 : decode cX4_addRuin 57 = .ok (.getfield 34, 3) := by decide +kernel
theorem dX4_addRuin_60 : decode cX4_addRuin 60 = .ok (.bipush 10, 2) := by decide +kernel
theorem dX4_addRuin_62 : decode cX4_addRuin 62 = .ok (.if_icmp .lt 13, 3) := by decide +kernel
theorem dX4_addRuin_65 : decode cX4_addRuin 65 = .ok (.new 40, 3) := by decide +kernel
theorem dX4_addRuin_68 : decode cX4_addRuin 68 = .ok (.dup, 1) := by decide +kernel
theorem dX4_addRuin_69 : decode cX4_addRuin 69 = .ok (.ldc 42, 2) := by decide +kernel
theorem dX4_addRuin_71 : decode cX4_addRuin 71 = .ok (.invokespecial 44, 3) := by decide +kernel
theorem dX4_addRuin_74 : decode cX4_addRuin 74 = .ok (.athrow, 1) := by decide +kernel
theorem dX4_addRuin_75 : decode cX4_addRuin 75 = .ok (.aload_n 0, 1) := by decide +kernel
theorem dX4_addRuin_76 : decode cX4_addRuin 76 = .ok (.getfield 10, 3) := by decide +kernel
theorem dX4_addRuin_79 : decode cX4_addRuin 79 = .ok (.getfield 30, 3) := by decide +kernel
theorem dX4_addRuin_82 : decode cX4_addRuin 82 = .ok (.iload_n 1, 1) := by decide +kernel
theorem dX4_addRuin_83 : decode cX4_addRuin 83 = .ok (.iload_n 2, 1) := by decide +kernel
theorem dX4_addRuin_84 : decode cX4_addRuin 84 = .ok (.iload_n 3, 1) := by decide +kernel
theorem dX4_addRuin_85 : decode cX4_addRuin 85 = .ok (.iload 4, 2) := by decide +kernel
theorem dX4_addRuin_87 : decode cX4_addRuin 87 = .ok (.invokevirtual 45, 3) := by decide +kernel
theorem dX4_addRuin_90 : decode cX4_addRuin 90 = .ok (.ireturn, 1) := by decide +kernel
set_option maxRecDepth 20000 in
theorem ggX4_cutIvy_X4_requireRuin : GoodIn wsX4_cutIvy wsX4_requireRuin := goodIn_ca (goodIn_r _ [10, 11, 12, 3, 4, 13, 14, 15, 16, 17, 18, 31, 32, 33, 34, 35, 36, 37, 38, 39, 40, 41, 42, 43, 44] (by decide +kernel) (by decide +kernel)) (goodIn_sub (fun _ h => List.mem_cons_of_mem _ (List.mem_append_right _ h)) (by decide +kernel))
set_option maxRecDepth 20000 in
theorem gX4_cutIvy_X4_requireRuin : GoodIn wsX4_cutIvy (wsV RX4 49 RX4 yX4_requireRuin wsX4_requireRuin) := goodIn_app (goodIn_of _ (by decide +kernel)) ggX4_cutIvy_X4_requireRuin
set_option maxRecDepth 20000 in
theorem ggX4_cutIvy_X4_isWithin : GoodIn wsX4_cutIvy wsX4_isWithin := goodIn_r _ [21] (by decide +kernel) (by decide +kernel)
set_option maxRecDepth 20000 in
theorem gX4_cutIvy_X4_isWithin : GoodIn wsX4_cutIvy (va_wsS RX4 19 yX4_isWithin wsX4_isWithin) := goodIn_app (goodIn_of _ (by decide +kernel)) ggX4_cutIvy_X4_isWithin
set_option maxRecDepth 20000 in
theorem ggX4_cutIvy_X2_cut : GoodIn wsX4_cutIvy wsX2_cut := goodIn_r _ [25, 26, 27, 28, 29, 30, 38, 39, 40, 41, 42, 43, 44] (by decide +kernel) (by decide +kernel)
set_option maxRecDepth 20000 in
theorem gX4_cutIvy_X2_cut : GoodIn wsX4_cutIvy (wsV RX4 55 RX2 yX2_cut wsX2_cut) := goodIn_app (goodIn_of _ (by decide +kernel)) ggX4_cutIvy_X2_cut
theorem dX4_cutIvy_0 : decode cX4_cutIvy 0 = .ok (.aload_n 0, 1) := by decide +kernel
theorem dX4_cutIvy_1 : decode cX4_cutIvy 1 = .ok (.iload_n 1, 1) := by decide +kernel
theorem dX4_cutIvy_2 : decode cX4_cutIvy 2 = .ok (.invokevirtual 49, 3) := by decide +kernel
theorem dX4_cutIvy_5 : decode cX4_cutIvy 5 = .ok (.iload_n 2, 1) := by decide +kernel
theorem dX4_cutIvy_6 : decode cX4_cutIvy 6 = .ok (.iconst 1, 1) := by decide +kernel
theorem dX4_cutIvy_7 : decode cX4_cutIvy 7 = .ok (.bipush 12, 2) := by decide +kernel
theorem dX4_cutIvy_9 : decode cX4_cutIvy 9 = .ok (.invokestatic 19, 3) := by decide +kernel
theorem dX4_cutIvy_12 : decode cX4_cutIvy 12 = .ok (.ifCond .ne 13, 3) := by decide +kernel
theorem dX4_cutIvy_15 : decode cX4_cutIvy 15 = .ok (.new 23, 3) := by decide +kernel
theorem dX4_cutIvy_18 : decode cX4_cutIvy 18 = .ok (.dup, 1) := by decide +kernel
theorem dX4_cutIvy_19 : decode cX4_cutIvy 19 = .ok (.ldc 53, 2) := by decide +kernel
theorem dX4_cutIvy_21 : decode cX4_cutIvy 21 = .ok (.invokespecial 27, 3) := by decide +kernel
theorem dX4_cutIvy_24 : decode cX4_cutIvy 24 = .ok (.athrow, 1) := by decide +kernel
theorem dX4_cutIvy_25 : decode cX4_cutIvy 25 = .ok (.aload_n 0, 1) := by decide +kernel
theorem dX4_cutIvy_26 : decode cX4_cutIvy 26 = .ok (.getfield 10, 3) := by decide +kernel
theorem dX4_cutIvy_29 : decode cX4_cutIvy 29 = .ok (.getfield 30, 3) := by decide +kernel
theorem dX4_cutIvy_32 : decode cX4_cutIvy 32 = .ok (.iload_n 1, 1) := by decide +kernel
theorem dX4_cutIvy_33 : decode cX4_cutIvy 33 = .ok (.iload_n 2, 1) := by decide +kernel
theorem dX4_cutIvy_34 : decode cX4_cutIvy 34 = .ok (.invokevirtual 55, 3) := by decide +kernel
theorem dX4_cutIvy_37 : decode cX4_cutIvy 37 = .ok (.aload_n 0, 1) := by decide +kernel
theorem dX4_cutIvy_38 : decode cX4_cutIvy 38 = .ok (.getfield 10, 3) := by decide +kernel
theorem dX4_cutIvy_41 : decode cX4_cutIvy 41 = .ok (.getfield 30, 3) := by decide +kernel
theorem dX4_cutIvy_44 : decode cX4_cutIvy 44 = .ok (.getfield 59, 3) := by decide +kernel
theorem dX4_cutIvy_47 : decode cX4_cutIvy 47 = .ok (.iload_n 1, 1) := by decide +kernel
theorem dX4_cutIvy_48 : decode cX4_cutIvy 48 = .ok (.iaload, 1) := by decide +kernel
theorem dX4_cutIvy_49 : decode cX4_cutIvy 49 = .ok (.ireturn, 1) := by decide +kernel
set_option maxRecDepth 20000 in
theorem ggX4_prop_X4_requireRuin : GoodIn wsX4_prop wsX4_requireRuin := goodIn_ca (goodIn_r _ [11, 12, 13, 3, 4, 14, 15, 16, 17, 18, 19, 26, 27, 28, 29, 30, 31, 32, 33, 34, 35, 36, 37, 38, 39] (by decide +kernel) (by decide +kernel)) (goodIn_sub (fun _ h => List.mem_cons_of_mem _ (List.mem_append_right _ h)) (by decide +kernel))
set_option maxRecDepth 20000 in
theorem gX4_prop_X4_requireRuin : GoodIn wsX4_prop (wsV RX4 49 RX4 yX4_requireRuin wsX4_requireRuin) := goodIn_app (goodIn_of _ (by decide +kernel)) ggX4_prop_X4_requireRuin
set_option maxRecDepth 20000 in
theorem ggX4_prop_X2_stands : GoodIn wsX4_prop wsX2_stands := goodIn_r _ [23, 24, 25, 15, 16, 17, 18, 19, 33, 34, 35, 36, 37, 38, 39] (by decide +kernel) (by decide +kernel)
set_option maxRecDepth 20000 in
theorem gX4_prop_X2_stands : GoodIn wsX4_prop (wsV RX4 63 RX2 yX2_stands wsX2_stands) := goodIn_app (goodIn_of _ (by decide +kernel)) ggX4_prop_X2_stands
theorem dX4_prop_0 : decode cX4_prop 0 = .ok (.aload_n 0, 1) := by decide +kernel
theorem dX4_prop_1 : decode cX4_prop 1 = .ok (.iload_n 1, 1) := by decide +kernel
theorem dX4_prop_2 : decode cX4_prop 2 = .ok (.invokevirtual 49, 3) := by decide +kernel
theorem dX4_prop_5 : decode cX4_prop 5 = .ok (.aload_n 0, 1) := by decide +kernel
theorem dX4_prop_6 : decode cX4_prop 6 = .ok (.getfield 10, 3) := by decide +kernel
theorem dX4_prop_9 : decode cX4_prop 9 = .ok (.getfield 30, 3) := by decide +kernel
theorem dX4_prop_12 : decode cX4_prop 12 = .ok (.iload_n 1, 1) := by decide +kernel
theorem dX4_prop_13 : decode cX4_prop 13 = .ok (.invokevirtual 63, 3) := by decide +kernel
theorem dX4_prop_16 : decode cX4_prop 16 = .ok (.ifCond .eq 31, 3) := by decide +kernel
theorem dX4_prop_19 : decode cX4_prop 19 = .ok (.aload_n 0, 1) := by decide +kernel
theorem dX4_prop_20 : decode cX4_prop 20 = .ok (.getfield 10, 3) := by decide +kernel
theorem dX4_prop_23 : decode cX4_prop 23 = .ok (.getfield 30, 3) := by decide +kernel
theorem dX4_prop_26 : decode cX4_prop 26 = .ok (.getfield 67, 3) := by decide +kernel
theorem dX4_prop_29 : decode cX4_prop 29 = .ok (.iload_n 1, 1) := by decide +kernel
theorem dX4_prop_30 : decode cX4_prop 30 = .ok (.iaload, 1) := by decide +kernel
theorem dX4_prop_31 : decode cX4_prop 31 = .ok (.bipush 20, 2) := by decide +kernel
theorem dX4_prop_33 : decode cX4_prop 33 = .ok (.if_icmp .ge 14, 3) := by decide +kernel
theorem dX4_prop_36 : decode cX4_prop 36 = .ok (.aload_n 0, 1) := by decide +kernel
theorem dX4_prop_37 : decode cX4_prop 37 = .ok (.getfield 10, 3) := by decide +kernel
theorem dX4_prop_40 : decode cX4_prop 40 = .ok (.getfield 70, 3) := by decide +kernel
theorem dX4_prop_43 : decode cX4_prop 43 = .ok (.iconst 5, 1) := by decide +kernel
theorem dX4_prop_44 : decode cX4_prop 44 = .ok (.if_icmp .ge 13, 3) := by decide +kernel
theorem dX4_prop_47 : decode cX4_prop 47 = .ok (.new 40, 3) := by decide +kernel
theorem dX4_prop_50 : decode cX4_prop 50 = .ok (.dup, 1) := by decide +kernel
theorem dX4_prop_51 : decode cX4_prop 51 = .ok (.ldc 73, 2) := by decide +kernel
theorem dX4_prop_53 : decode cX4_prop 53 = .ok (.invokespecial 44, 3) := by decide +kernel
theorem dX4_prop_56 : decode cX4_prop 56 = .ok (.athrow, 1) := by decide +kernel
theorem dX4_prop_57 : decode cX4_prop 57 = .ok (.aload_n 0, 1) := by decide +kernel
theorem dX4_prop_58 : decode cX4_prop 58 = .ok (.getfield 10, 3) := by decide +kernel
theorem dX4_prop_61 : decode cX4_prop 61 = .ok (.dup, 1) := by decide +kernel
theorem dX4_prop_62 : decode cX4_prop 62 = .ok (.getfield 70, 3) := by decide +kernel
theorem dX4_prop_65 : decode cX4_prop 65 = .ok (.iconst 5, 1) := by decide +kernel
theorem dX4_prop_66 : decode cX4_prop 66 = .ok (.isub, 1) := by decide +kernel
theorem dX4_prop_67 : decode cX4_prop 67 = .ok (.putfield 70, 3) := by decide +kernel
theorem dX4_prop_70 : decode cX4_prop 70 = .ok (.aload_n 0, 1) := by decide +kernel
theorem dX4_prop_71 : decode cX4_prop 71 = .ok (.getfield 10, 3) := by decide +kernel
theorem dX4_prop_74 : decode cX4_prop 74 = .ok (.getfield 30, 3) := by decide +kernel
theorem dX4_prop_77 : decode cX4_prop 77 = .ok (.getfield 67, 3) := by decide +kernel
theorem dX4_prop_80 : decode cX4_prop 80 = .ok (.iload_n 1, 1) := by decide +kernel
theorem dX4_prop_81 : decode cX4_prop 81 = .ok (.dup2, 1) := by decide +kernel
theorem dX4_prop_82 : decode cX4_prop 82 = .ok (.iaload, 1) := by decide +kernel
theorem dX4_prop_83 : decode cX4_prop 83 = .ok (.iconst 1, 1) := by decide +kernel
theorem dX4_prop_84 : decode cX4_prop 84 = .ok (.iadd, 1) := by decide +kernel
theorem dX4_prop_85 : decode cX4_prop 85 = .ok (.iastore, 1) := by decide +kernel
theorem dX4_prop_86 : decode cX4_prop 86 = .ok (.aload_n 0, 1) := by decide +kernel
theorem dX4_prop_87 : decode cX4_prop 87 = .ok (.getfield 10, 3) := by decide +kernel
theorem dX4_prop_90 : decode cX4_prop 90 = .ok (.getfield 30, 3) := by decide +kernel
theorem dX4_prop_93 : decode cX4_prop 93 = .ok (.getfield 67, 3) := by decide +kernel
theorem dX4_prop_96 : decode cX4_prop 96 = .ok (.iload_n 1, 1) := by decide +kernel
theorem dX4_prop_97 : decode cX4_prop 97 = .ok (.iaload, 1) := by decide +kernel
theorem dX4_prop_98 : decode cX4_prop 98 = .ok (.ireturn, 1) := by decide +kernel
set_option maxRecDepth 20000 in
theorem ggX4_setPrice_X4_requireRuin : GoodIn wsX4_setPrice wsX4_requireRuin := goodIn_ca (goodIn_r _ [10, 11, 12, 3, 4, 13, 14, 15, 16, 17, 18, 22, 23, 24, 25, 26, 27, 28, 29, 30, 31, 32, 33, 34, 35] (by decide +kernel) (by decide +kernel)) (goodIn_sub (fun _ h => List.mem_cons_of_mem _ (List.mem_append_right _ h)) (by decide +kernel))
set_option maxRecDepth 20000 in
theorem gX4_setPrice_X4_requireRuin : GoodIn wsX4_setPrice (wsV RX4 49 RX4 yX4_requireRuin wsX4_requireRuin) := goodIn_app (goodIn_of _ (by decide +kernel)) ggX4_setPrice_X4_requireRuin
set_option maxRecDepth 20000 in
theorem ggX4_setPrice_X4_isWithin : GoodIn wsX4_setPrice wsX4_isWithin := goodIn_r _ [21] (by decide +kernel) (by decide +kernel)
set_option maxRecDepth 20000 in
theorem gX4_setPrice_X4_isWithin : GoodIn wsX4_setPrice (va_wsS RX4 19 yX4_isWithin wsX4_isWithin) := goodIn_app (goodIn_of _ (by decide +kernel)) ggX4_setPrice_X4_isWithin
theorem dX4_setPrice_0 : decode cX4_setPrice 0 = .ok (.aload_n 0, 1) := by decide +kernel
theorem dX4_setPrice_1 : decode cX4_setPrice 1 = .ok (.iload_n 1, 1) := by decide +kernel
theorem dX4_setPrice_2 : decode cX4_setPrice 2 = .ok (.invokevirtual 49, 3) := by decide +kernel
theorem dX4_setPrice_5 : decode cX4_setPrice 5 = .ok (.iload_n 2, 1) := by decide +kernel
theorem dX4_setPrice_6 : decode cX4_setPrice 6 = .ok (.iconst 0, 1) := by decide +kernel
theorem dX4_setPrice_7 : decode cX4_setPrice 7 = .ok (.bipush 9, 2) := by decide +kernel
theorem dX4_setPrice_9 : decode cX4_setPrice 9 = .ok (.invokestatic 19, 3) := by decide +kernel
theorem dX4_setPrice_12 : decode cX4_setPrice 12 = .ok (.ifCond .ne 13, 3) := by decide +kernel
theorem dX4_setPrice_15 : decode cX4_setPrice 15 = .ok (.new 23, 3) := by decide +kernel
theorem dX4_setPrice_18 : decode cX4_setPrice 18 = .ok (.dup, 1) := by decide +kernel
theorem dX4_setPrice_19 : decode cX4_setPrice 19 = .ok (.ldc 75, 2) := by decide +kernel
theorem dX4_setPrice_21 : decode cX4_setPrice 21 = .ok (.invokespecial 27, 3) := by decide +kernel
theorem dX4_setPrice_24 : decode cX4_setPrice 24 = .ok (.athrow, 1) := by decide +kernel
theorem dX4_setPrice_25 : decode cX4_setPrice 25 = .ok (.aload_n 0, 1) := by decide +kernel
theorem dX4_setPrice_26 : decode cX4_setPrice 26 = .ok (.getfield 10, 3) := by decide +kernel
theorem dX4_setPrice_29 : decode cX4_setPrice 29 = .ok (.getfield 30, 3) := by decide +kernel
theorem dX4_setPrice_32 : decode cX4_setPrice 32 = .ok (.getfield 77, 3) := by decide +kernel
theorem dX4_setPrice_35 : decode cX4_setPrice 35 = .ok (.iload_n 1, 1) := by decide +kernel
theorem dX4_setPrice_36 : decode cX4_setPrice 36 = .ok (.iaload, 1) := by decide +kernel
theorem dX4_setPrice_37 : decode cX4_setPrice 37 = .ok (.istore_n 3, 1) := by decide +kernel
theorem dX4_setPrice_38 : decode cX4_setPrice 38 = .ok (.aload_n 0, 1) := by decide +kernel
theorem dX4_setPrice_39 : decode cX4_setPrice 39 = .ok (.getfield 10, 3) := by decide +kernel
theorem dX4_setPrice_42 : decode cX4_setPrice 42 = .ok (.getfield 30, 3) := by decide +kernel
theorem dX4_setPrice_45 : decode cX4_setPrice 45 = .ok (.getfield 77, 3) := by decide +kernel
theorem dX4_setPrice_48 : decode cX4_setPrice 48 = .ok (.iload_n 1, 1) := by decide +kernel
theorem dX4_setPrice_49 : decode cX4_setPrice 49 = .ok (.iload_n 2, 1) := by decide +kernel
theorem dX4_setPrice_50 : decode cX4_setPrice 50 = .ok (.iastore, 1) := by decide +kernel
theorem dX4_setPrice_51 : decode cX4_setPrice 51 = .ok (.iload_n 3, 1) := by decide +kernel
theorem dX4_setPrice_52 : decode cX4_setPrice 52 = .ok (.ireturn, 1) := by decide +kernel
set_option maxRecDepth 20000 in
theorem ggX4_setGuests_X4_isWithin : GoodIn wsX4_setGuests wsX4_isWithin := goodIn_r _ [8] (by decide +kernel) (by decide +kernel)
set_option maxRecDepth 20000 in
theorem gX4_setGuests_X4_isWithin : GoodIn wsX4_setGuests (va_wsS RX4 19 yX4_isWithin wsX4_isWithin) := goodIn_app (goodIn_of _ (by decide +kernel)) ggX4_setGuests_X4_isWithin
theorem dX4_setGuests_0 : decode cX4_setGuests 0 = .ok (.iload_n 1, 1) := by decide +kernel
theorem dX4_setGuests_1 : decode cX4_setGuests 1 = .ok (.iconst 0, 1) := by decide +kernel
theorem dX4_setGuests_2 : decode cX4_setGuests 2 = .ok (.bipush 40, 2) := by decide +kernel
theorem dX4_setGuests_4 : decode cX4_setGuests 4 = .ok (.invokestatic 19, 3) := by decide +kernel
theorem dX4_setGuests_7 : decode cX4_setGuests 7 = .ok (.ifCond .ne 13, 3) := by decide +kernel
theorem dX4_setGuests_10 : decode cX4_setGuests 10 = .ok (.new 23, 3) := by decide +kernel
theorem dX4_setGuests_13 : decode cX4_setGuests 13 = .ok (.dup, 1) := by decide +kernel
theorem dX4_setGuests_14 : decode cX4_setGuests 14 = .ok (.ldc 80, 2) := by decide +kernel
theorem dX4_setGuests_16 : decode cX4_setGuests 16 = .ok (.invokespecial 27, 3) := by decide +kernel
theorem dX4_setGuests_19 : decode cX4_setGuests 19 = .ok (.athrow, 1) := by decide +kernel
theorem dX4_setGuests_20 : decode cX4_setGuests 20 = .ok (.aload_n 0, 1) := by decide +kernel
theorem dX4_setGuests_21 : decode cX4_setGuests 21 = .ok (.getfield 10, 3) := by decide +kernel
theorem dX4_setGuests_24 : decode cX4_setGuests 24 = .ok (.getfield 82, 3) := by decide +kernel
theorem dX4_setGuests_27 : decode cX4_setGuests 27 = .ok (.istore_n 2, 1) := by decide +kernel
theorem dX4_setGuests_28 : decode cX4_setGuests 28 = .ok (.aload_n 0, 1) := by decide +kernel
theorem dX4_setGuests_29 : decode cX4_setGuests 29 = .ok (.getfield 10, 3) := by decide +kernel
theorem dX4_setGuests_32 : decode cX4_setGuests 32 = .ok (.iload_n 1, 1) := by decide +kernel
theorem dX4_setGuests_33 : decode cX4_setGuests 33 = .ok (.putfield 82, 3) := by decide +kernel
theorem dX4_setGuests_36 : decode cX4_setGuests 36 = .ok (.iload_n 2, 1) := by decide +kernel
theorem dX4_setGuests_37 : decode cX4_setGuests 37 = .ok (.ireturn, 1) := by decide +kernel
set_option maxRecDepth 20000 in
theorem ggX4_sellTicket_X4_requireRuin : GoodIn wsX4_sellTicket wsX4_requireRuin := goodIn_ca (goodIn_r _ [16, 17, 18, 5, 6, 19, 20, 21, 22, 23, 24, 44, 45, 46, 47, 48, 49, 50, 56, 57, 58, 59, 60, 61, 62] (by decide +kernel) (by decide +kernel)) (goodIn_sub (fun _ h => List.mem_cons_of_mem _ (List.mem_append_right _ h)) (by decide +kernel))
set_option maxRecDepth 20000 in
theorem gX4_sellTicket_X4_requireRuin : GoodIn wsX4_sellTicket (wsV RX4 49 RX4 yX4_requireRuin wsX4_requireRuin) := goodIn_app (goodIn_of _ (by decide +kernel)) ggX4_sellTicket_X4_requireRuin
set_option maxRecDepth 20000 in
theorem ggX4_sellTicket_X4_isWithin : GoodIn wsX4_sellTicket wsX4_isWithin := goodIn_r _ [27] (by decide +kernel) (by decide +kernel)
set_option maxRecDepth 20000 in
theorem gX4_sellTicket_X4_isWithin : GoodIn wsX4_sellTicket (va_wsS RX4 19 yX4_isWithin wsX4_isWithin) := goodIn_app (goodIn_of _ (by decide +kernel)) ggX4_sellTicket_X4_isWithin
set_option maxRecDepth 20000 in
theorem ggX4_sellTicket_X2_stands : GoodIn wsX4_sellTicket wsX2_stands := goodIn_r _ [31, 32, 33, 20, 21, 22, 23, 24, 56, 57, 58, 59, 60, 61, 62] (by decide +kernel) (by decide +kernel)
set_option maxRecDepth 20000 in
theorem gX4_sellTicket_X2_stands : GoodIn wsX4_sellTicket (wsV RX4 63 RX2 yX2_stands wsX2_stands) := goodIn_app (goodIn_of _ (by decide +kernel)) ggX4_sellTicket_X2_stands
set_option maxRecDepth 20000 in
theorem ggX4_sellTicket_X3_issue : GoodIn wsX4_sellTicket wsX3_issue := goodIn_r _ [38, 39, 40, 41, 42, 43, 51, 52, 53, 54, 55] (by decide +kernel) (by decide +kernel)
set_option maxRecDepth 20000 in
theorem gX4_sellTicket_X3_issue : GoodIn wsX4_sellTicket (wsV RX4 99 RX3 yX3_issue wsX3_issue) := goodIn_app (goodIn_of _ (by decide +kernel)) ggX4_sellTicket_X3_issue
theorem dX4_sellTicket_0 : decode cX4_sellTicket 0 = .ok (.aload_n 0, 1) := by decide +kernel
theorem dX4_sellTicket_1 : decode cX4_sellTicket 1 = .ok (.iload_n 1, 1) := by decide +kernel
theorem dX4_sellTicket_2 : decode cX4_sellTicket 2 = .ok (.invokevirtual 49, 3) := by decide +kernel
theorem dX4_sellTicket_5 : decode cX4_sellTicket 5 = .ok (.iload_n 2, 1) := by decide +kernel
theorem dX4_sellTicket_6 : decode cX4_sellTicket 6 = .ok (.iconst 0, 1) := by decide +kernel
theorem dX4_sellTicket_7 : decode cX4_sellTicket 7 = .ok (.bipush 30, 2) := by decide +kernel
theorem dX4_sellTicket_9 : decode cX4_sellTicket 9 = .ok (.invokestatic 19, 3) := by decide +kernel
theorem dX4_sellTicket_12 : decode cX4_sellTicket 12 = .ok (.ifCond .ne 13, 3) := by decide +kernel
theorem dX4_sellTicket_15 : decode cX4_sellTicket 15 = .ok (.new 23, 3) := by decide +kernel
theorem dX4_sellTicket_18 : decode cX4_sellTicket 18 = .ok (.dup, 1) := by decide +kernel
theorem dX4_sellTicket_19 : decode cX4_sellTicket 19 = .ok (.ldc 85, 2) := by decide +kernel
theorem dX4_sellTicket_21 : decode cX4_sellTicket 21 = .ok (.invokespecial 27, 3) := by decide +kernel
theorem dX4_sellTicket_24 : decode cX4_sellTicket 24 = .ok (.athrow, 1) := by decide +kernel
theorem dX4_sellTicket_25 : decode cX4_sellTicket 25 = .ok (.aload_n 0, 1) := by decide +kernel
theorem dX4_sellTicket_26 : decode cX4_sellTicket 26 = .ok (.getfield 10, 3) := by decide +kernel
theorem dX4_sellTicket_29 : decode cX4_sellTicket 29 = .ok (.getfield 30, 3) := by decide +kernel
theorem dX4_sellTicket_32 : decode cX4_sellTicket 32 = .ok (.iload_n 1, 1) := by decide +kernel
theorem dX4_sellTicket_33 : decode cX4_sellTicket 33 = .ok (.invokevirtual 63, 3) := by decide +kernel
theorem dX4_sellTicket_36 : decode cX4_sellTicket 36 = .ok (.ifCond .eq 18, 3) := by decide +kernel
theorem dX4_sellTicket_39 : decode cX4_sellTicket 39 = .ok (.aload_n 0, 1) := by decide +kernel
theorem dX4_sellTicket_40 : decode cX4_sellTicket 40 = .ok (.getfield 10, 3) := by decide +kernel
theorem dX4_sellTicket_43 : decode cX4_sellTicket 43 = .ok (.getfield 87, 3) := by decide +kernel
theorem dX4_sellTicket_46 : decode cX4_sellTicket 46 = .ok (.getfield 91, 3) := by decide +kernel
theorem dX4_sellTicket_49 : decode cX4_sellTicket 49 = .ok (.bipush 30, 2) := by decide +kernel
theorem dX4_sellTicket_51 : decode cX4_sellTicket 51 = .ok (.if_icmp .lt 13, 3) := by decide +kernel
theorem dX4_sellTicket_54 : decode cX4_sellTicket 54 = .ok (.new 40, 3) := by decide +kernel
theorem dX4_sellTicket_57 : decode cX4_sellTicket 57 = .ok (.dup, 1) := by decide +kernel
theorem dX4_sellTicket_58 : decode cX4_sellTicket 58 = .ok (.ldc 94, 2) := by decide +kernel
theorem dX4_sellTicket_60 : decode cX4_sellTicket 60 = .ok (.invokespecial 44, 3) := by decide +kernel
theorem dX4_sellTicket_63 : decode cX4_sellTicket 63 = .ok (.athrow, 1) := by decide +kernel
theorem dX4_sellTicket_64 : decode cX4_sellTicket 64 = .ok (.aload_n 0, 1) := by decide +kernel
theorem dX4_sellTicket_65 : decode cX4_sellTicket 65 = .ok (.getfield 10, 3) := by decide +kernel
theorem dX4_sellTicket_68 : decode cX4_sellTicket 68 = .ok (.getfield 30, 3) := by decide +kernel
theorem dX4_sellTicket_71 : decode cX4_sellTicket 71 = .ok (.getfield 77, 3) := by decide +kernel
theorem dX4_sellTicket_74 : decode cX4_sellTicket 74 = .ok (.iload_n 1, 1) := by decide +kernel
theorem dX4_sellTicket_75 : decode cX4_sellTicket 75 = .ok (.iaload, 1) := by decide +kernel
theorem dX4_sellTicket_76 : decode cX4_sellTicket 76 = .ok (.istore_n 3, 1) := by decide +kernel
theorem dX4_sellTicket_77 : decode cX4_sellTicket 77 = .ok (.aload_n 0, 1) := by decide +kernel
theorem dX4_sellTicket_78 : decode cX4_sellTicket 78 = .ok (.getfield 10, 3) := by decide +kernel
theorem dX4_sellTicket_81 : decode cX4_sellTicket 81 = .ok (.dup, 1) := by decide +kernel
theorem dX4_sellTicket_82 : decode cX4_sellTicket 82 = .ok (.getfield 70, 3) := by decide +kernel
theorem dX4_sellTicket_85 : decode cX4_sellTicket 85 = .ok (.iload_n 3, 1) := by decide +kernel
theorem dX4_sellTicket_86 : decode cX4_sellTicket 86 = .ok (.iadd, 1) := by decide +kernel
theorem dX4_sellTicket_87 : decode cX4_sellTicket 87 = .ok (.putfield 70, 3) := by decide +kernel
theorem dX4_sellTicket_90 : decode cX4_sellTicket 90 = .ok (.aload_n 0, 1) := by decide +kernel
theorem dX4_sellTicket_91 : decode cX4_sellTicket 91 = .ok (.getfield 10, 3) := by decide +kernel
theorem dX4_sellTicket_94 : decode cX4_sellTicket 94 = .ok (.getfield 87, 3) := by decide +kernel
theorem dX4_sellTicket_97 : decode cX4_sellTicket 97 = .ok (.iload_n 1, 1) := by decide +kernel
theorem dX4_sellTicket_98 : decode cX4_sellTicket 98 = .ok (.aload_n 0, 1) := by decide +kernel
theorem dX4_sellTicket_99 : decode cX4_sellTicket 99 = .ok (.getfield 10, 3) := by decide +kernel
theorem dX4_sellTicket_102 : decode cX4_sellTicket 102 = .ok (.getfield 96, 3) := by decide +kernel
theorem dX4_sellTicket_105 : decode cX4_sellTicket 105 = .ok (.iload_n 2, 1) := by decide +kernel
theorem dX4_sellTicket_106 : decode cX4_sellTicket 106 = .ok (.iadd, 1) := by decide +kernel
theorem dX4_sellTicket_107 : decode cX4_sellTicket 107 = .ok (.iload_n 3, 1) := by decide +kernel
theorem dX4_sellTicket_108 : decode cX4_sellTicket 108 = .ok (.invokevirtual 99, 3) := by decide +kernel
theorem dX4_sellTicket_111 : decode cX4_sellTicket 111 = .ok (.ireturn, 1) := by decide +kernel
set_option maxRecDepth 20000 in
theorem ggX4_pass_X4_requireDaysToPass : GoodIn wsX4_pass wsX4_requireDaysToPass := goodIn_ca (goodIn_r _ [6, 7, 8, 9, 10, 5, 11] (by decide +kernel) (by decide +kernel)) (goodIn_sub (fun _ h => List.mem_cons_of_mem _ (List.mem_append_right _ h)) (by decide +kernel))
set_option maxRecDepth 20000 in
theorem gX4_pass_X4_requireDaysToPass : GoodIn wsX4_pass (va_wsS RX4 103 yX4_requireDaysToPass wsX4_requireDaysToPass) := goodIn_app (goodIn_of _ (by decide +kernel)) ggX4_pass_X4_requireDaysToPass
set_option maxRecDepth 20000 in
theorem ggX4_pass_X1_passDays : GoodIn wsX4_pass wsX1_passDays := goodIn_r _ [16, 17, 18, 19, 20, 21, 22, 23, 15, 24, 25, 26, 27, 28, 29, 30, 31, 32, 33, 34, 35, 36, 37, 38, 39, 40, 41, 42, 43, 44, 45, 46, 47, 48, 49, 50, 51, 52, 53, 54, 55, 56, 57, 58, 59, 60, 61, 62, 63, 64, 65, 66, 67, 68, 69, 70, 71, 72, 73, 74, 75, 76, 77, 78, 79, 80, 81, 82, 83, 84, 85, 86, 87, 88, 89, 90, 91, 92, 93, 94, 95, 96, 97, 98, 99, 100, 101, 102, 105, 106, 107, 108, 109, 110, 111, 112, 113, 114, 115, 116, 117, 118, 119, 120, 121] (by decide +kernel) (by decide +kernel)
set_option maxRecDepth 20000 in
theorem gX4_pass_X1_passDays : GoodIn wsX4_pass (wsV RX4 106 RX1 yX1_passDays wsX1_passDays) := goodIn_app (goodIn_of _ (by decide +kernel)) ggX4_pass_X1_passDays
theorem dX4_pass_0 : decode cX4_pass 0 = .ok (.iload_n 1, 1) := by decide +kernel
theorem dX4_pass_1 : decode cX4_pass 1 = .ok (.invokestatic 103, 3) := by decide +kernel
theorem dX4_pass_4 : decode cX4_pass 4 = .ok (.aload_n 0, 1) := by decide +kernel
theorem dX4_pass_5 : decode cX4_pass 5 = .ok (.getfield 10, 3) := by decide +kernel
theorem dX4_pass_8 : decode cX4_pass 8 = .ok (.getfield 70, 3) := by decide +kernel
theorem dX4_pass_11 : decode cX4_pass 11 = .ok (.istore_n 2, 1) := by decide +kernel
theorem dX4_pass_12 : decode cX4_pass 12 = .ok (.aload_n 0, 1) := by decide +kernel
theorem dX4_pass_13 : decode cX4_pass 13 = .ok (.getfield 10, 3) := by decide +kernel
theorem dX4_pass_16 : decode cX4_pass 16 = .ok (.iload_n 1, 1) := by decide +kernel
theorem dX4_pass_17 : decode cX4_pass 17 = .ok (.invokevirtual 106, 3) := by decide +kernel
theorem dX4_pass_20 : decode cX4_pass 20 = .ok (.aload_n 0, 1) := by decide +kernel
theorem dX4_pass_21 : decode cX4_pass 21 = .ok (.getfield 10, 3) := by decide +kernel
theorem dX4_pass_24 : decode cX4_pass 24 = .ok (.getfield 70, 3) := by decide +kernel
theorem dX4_pass_27 : decode cX4_pass 27 = .ok (.iload_n 2, 1) := by decide +kernel
theorem dX4_pass_28 : decode cX4_pass 28 = .ok (.isub, 1) := by decide +kernel
theorem dX4_pass_29 : decode cX4_pass 29 = .ok (.ireturn, 1) := by decide +kernel
theorem dX4_day_0 : decode cX4_day 0 = .ok (.aload_n 0, 1) := by decide +kernel
theorem dX4_day_1 : decode cX4_day 1 = .ok (.getfield 10, 3) := by decide +kernel
theorem dX4_day_4 : decode cX4_day 4 = .ok (.getfield 96, 3) := by decide +kernel
theorem dX4_day_7 : decode cX4_day 7 = .ok (.ireturn, 1) := by decide +kernel
set_option maxRecDepth 20000 in
theorem ggX4_phase_X0_phaseOn : GoodIn wsX4_phase wsX0_phaseOn := goodIn_r _ [6] (by decide +kernel) (by decide +kernel)
set_option maxRecDepth 20000 in
theorem gX4_phase_X0_phaseOn : GoodIn wsX4_phase (va_wsS RX4 109 yX0_phaseOn wsX0_phaseOn) := goodIn_app (goodIn_of _ (by decide +kernel)) ggX4_phase_X0_phaseOn
theorem dX4_phase_0 : decode cX4_phase 0 = .ok (.aload_n 0, 1) := by decide +kernel
theorem dX4_phase_1 : decode cX4_phase 1 = .ok (.getfield 10, 3) := by decide +kernel
theorem dX4_phase_4 : decode cX4_phase 4 = .ok (.getfield 96, 3) := by decide +kernel
theorem dX4_phase_7 : decode cX4_phase 7 = .ok (.invokestatic 109, 3) := by decide +kernel
theorem dX4_phase_10 : decode cX4_phase 10 = .ok (.ireturn, 1) := by decide +kernel
set_option maxRecDepth 20000 in
theorem ggX4_brightness_X0_brightnessOn : GoodIn wsX4_brightness wsX0_brightnessOn := goodIn_r _ [6, 7, 8, 5, 9] (by decide +kernel) (by decide +kernel)
set_option maxRecDepth 20000 in
theorem gX4_brightness_X0_brightnessOn : GoodIn wsX4_brightness (va_wsS RX4 115 yX0_brightnessOn wsX0_brightnessOn) := goodIn_app (goodIn_of _ (by decide +kernel)) ggX4_brightness_X0_brightnessOn
theorem dX4_brightness_0 : decode cX4_brightness 0 = .ok (.aload_n 0, 1) := by decide +kernel
theorem dX4_brightness_1 : decode cX4_brightness 1 = .ok (.getfield 10, 3) := by decide +kernel
theorem dX4_brightness_4 : decode cX4_brightness 4 = .ok (.getfield 96, 3) := by decide +kernel
theorem dX4_brightness_7 : decode cX4_brightness 7 = .ok (.invokestatic 115, 3) := by decide +kernel
theorem dX4_brightness_10 : decode cX4_brightness 10 = .ok (.ireturn, 1) := by decide +kernel
set_option maxRecDepth 20000 in
theorem ggX4_daysUntilFullMoon_X0_daysUntilFullFrom : GoodIn wsX4_daysUntilFullMoon wsX0_daysUntilFullFrom := goodIn_r _ [6, 7, 8, 5, 9] (by decide +kernel) (by decide +kernel)
set_option maxRecDepth 20000 in
theorem gX4_daysUntilFullMoon_X0_daysUntilFullFrom : GoodIn wsX4_daysUntilFullMoon (va_wsS RX4 118 yX0_daysUntilFullFrom wsX0_daysUntilFullFrom) := goodIn_app (goodIn_of _ (by decide +kernel)) ggX4_daysUntilFullMoon_X0_daysUntilFullFrom
theorem dX4_daysUntilFullMoon_0 : decode cX4_daysUntilFullMoon 0 = .ok (.aload_n 0, 1) := by decide +kernel
theorem dX4_daysUntilFullMoon_1 : decode cX4_daysUntilFullMoon 1 = .ok (.getfield 10, 3) := by decide +kernel
theorem dX4_daysUntilFullMoon_4 : decode cX4_daysUntilFullMoon 4 = .ok (.getfield 96, 3) := by decide +kernel
theorem dX4_daysUntilFullMoon_7 : decode cX4_daysUntilFullMoon 7 = .ok (.invokestatic 118, 3) := by decide +kernel
theorem dX4_daysUntilFullMoon_10 : decode cX4_daysUntilFullMoon 10 = .ok (.ireturn, 1) := by decide +kernel
theorem dX4_ruins_0 : decode cX4_ruins 0 = .ok (.aload_n 0, 1) := by decide +kernel
theorem dX4_ruins_1 : decode cX4_ruins 1 = .ok (.getfield 10, 3) := by decide +kernel
theorem dX4_ruins_4 : decode cX4_ruins 4 = .ok (.getfield 30, 3) := by decide +kernel
theorem dX4_ruins_7 : decode cX4_ruins 7 = .ok (.getfield 34, 3) := by decide +kernel
theorem dX4_ruins_10 : decode cX4_ruins 10 = .ok (.ireturn, 1) := by decide +kernel
set_option maxRecDepth 20000 in
theorem ggX4_standing_X2_countStanding : GoodIn wsX4_standing wsX2_countStanding := goodIn_r _ [7, 8, 9, 17, 18, 19, 20, 21, 22, 23] (by decide +kernel) (by decide +kernel)
set_option maxRecDepth 20000 in
theorem gX4_standing_X2_countStanding : GoodIn wsX4_standing (wsV RX4 121 RX2 yX2_countStanding wsX2_countStanding) := goodIn_app (goodIn_of _ (by decide +kernel)) ggX4_standing_X2_countStanding
theorem dX4_standing_0 : decode cX4_standing 0 = .ok (.aload_n 0, 1) := by decide +kernel
theorem dX4_standing_1 : decode cX4_standing 1 = .ok (.getfield 10, 3) := by decide +kernel
theorem dX4_standing_4 : decode cX4_standing 4 = .ok (.getfield 30, 3) := by decide +kernel
theorem dX4_standing_7 : decode cX4_standing 7 = .ok (.invokevirtual 121, 3) := by decide +kernel
theorem dX4_standing_10 : decode cX4_standing 10 = .ok (.ireturn, 1) := by decide +kernel
theorem dX4_purse_0 : decode cX4_purse 0 = .ok (.aload_n 0, 1) := by decide +kernel
theorem dX4_purse_1 : decode cX4_purse 1 = .ok (.getfield 10, 3) := by decide +kernel
theorem dX4_purse_4 : decode cX4_purse 4 = .ok (.getfield 70, 3) := by decide +kernel
theorem dX4_purse_7 : decode cX4_purse 7 = .ok (.ireturn, 1) := by decide +kernel
set_option maxRecDepth 20000 in
theorem ggX4_wallsOf_X4_requireRuin : GoodIn wsX4_wallsOf wsX4_requireRuin := goodIn_ca (goodIn_r _ [8, 9, 10, 1, 2, 11, 12, 13, 14, 15, 16, 17, 18, 19, 20, 21, 22, 23, 24, 25, 26, 27, 28, 29, 30] (by decide +kernel) (by decide +kernel)) (goodIn_sub (fun _ h => List.mem_cons_of_mem _ (List.mem_append_right _ h)) (by decide +kernel))
set_option maxRecDepth 20000 in
theorem gX4_wallsOf_X4_requireRuin : GoodIn wsX4_wallsOf (wsV RX4 49 RX4 yX4_requireRuin wsX4_requireRuin) := goodIn_app (goodIn_of _ (by decide +kernel)) ggX4_wallsOf_X4_requireRuin
theorem dX4_wallsOf_0 : decode cX4_wallsOf 0 = .ok (.aload_n 0, 1) := by decide +kernel
theorem dX4_wallsOf_1 : decode cX4_wallsOf 1 = .ok (.iload_n 1, 1) := by decide +kernel
theorem dX4_wallsOf_2 : decode cX4_wallsOf 2 = .ok (.invokevirtual 49, 3) := by decide +kernel
theorem dX4_wallsOf_5 : decode cX4_wallsOf 5 = .ok (.aload_n 0, 1) := by decide +kernel
theorem dX4_wallsOf_6 : decode cX4_wallsOf 6 = .ok (.getfield 10, 3) := by decide +kernel
theorem dX4_wallsOf_9 : decode cX4_wallsOf 9 = .ok (.getfield 30, 3) := by decide +kernel
theorem dX4_wallsOf_12 : decode cX4_wallsOf 12 = .ok (.getfield 67, 3) := by decide +kernel
theorem dX4_wallsOf_15 : decode cX4_wallsOf 15 = .ok (.iload_n 1, 1) := by decide +kernel
theorem dX4_wallsOf_16 : decode cX4_wallsOf 16 = .ok (.iaload, 1) := by decide +kernel
theorem dX4_wallsOf_17 : decode cX4_wallsOf 17 = .ok (.ireturn, 1) := by decide +kernel
set_option maxRecDepth 20000 in
theorem ggX4_ivyOf_X4_requireRuin : GoodIn wsX4_ivyOf wsX4_requireRuin := goodIn_ca (goodIn_r _ [8, 9, 10, 1, 2, 11, 12, 13, 14, 15, 16, 17, 18, 19, 20, 21, 22, 23, 24, 25, 26, 27, 28, 29, 30] (by decide +kernel) (by decide +kernel)) (goodIn_sub (fun _ h => List.mem_cons_of_mem _ (List.mem_append_right _ h)) (by decide +kernel))
set_option maxRecDepth 20000 in
theorem gX4_ivyOf_X4_requireRuin : GoodIn wsX4_ivyOf (wsV RX4 49 RX4 yX4_requireRuin wsX4_requireRuin) := goodIn_app (goodIn_of _ (by decide +kernel)) ggX4_ivyOf_X4_requireRuin
theorem dX4_ivyOf_0 : decode cX4_ivyOf 0 = .ok (.aload_n 0, 1) := by decide +kernel
theorem dX4_ivyOf_1 : decode cX4_ivyOf 1 = .ok (.iload_n 1, 1) := by decide +kernel
theorem dX4_ivyOf_2 : decode cX4_ivyOf 2 = .ok (.invokevirtual 49, 3) := by decide +kernel
theorem dX4_ivyOf_5 : decode cX4_ivyOf 5 = .ok (.aload_n 0, 1) := by decide +kernel
theorem dX4_ivyOf_6 : decode cX4_ivyOf 6 = .ok (.getfield 10, 3) := by decide +kernel
theorem dX4_ivyOf_9 : decode cX4_ivyOf 9 = .ok (.getfield 30, 3) := by decide +kernel
theorem dX4_ivyOf_12 : decode cX4_ivyOf 12 = .ok (.getfield 59, 3) := by decide +kernel
theorem dX4_ivyOf_15 : decode cX4_ivyOf 15 = .ok (.iload_n 1, 1) := by decide +kernel
theorem dX4_ivyOf_16 : decode cX4_ivyOf 16 = .ok (.iaload, 1) := by decide +kernel
theorem dX4_ivyOf_17 : decode cX4_ivyOf 17 = .ok (.ireturn, 1) := by decide +kernel
set_option maxRecDepth 20000 in
theorem ggX4_gradeOf_X4_requireRuin : GoodIn wsX4_gradeOf wsX4_requireRuin := goodIn_ca (goodIn_r _ [7, 8, 9, 1, 2, 10, 11, 12, 13, 14, 15, 21, 22, 23, 24, 25, 26, 27, 28, 29, 30, 31, 32, 33, 34] (by decide +kernel) (by decide +kernel)) (goodIn_sub (fun _ h => List.mem_cons_of_mem _ (List.mem_append_right _ h)) (by decide +kernel))
set_option maxRecDepth 20000 in
theorem gX4_gradeOf_X4_requireRuin : GoodIn wsX4_gradeOf (wsV RX4 49 RX4 yX4_requireRuin wsX4_requireRuin) := goodIn_app (goodIn_of _ (by decide +kernel)) ggX4_gradeOf_X4_requireRuin
set_option maxRecDepth 20000 in
theorem ggX4_gradeOf_X2_grade : GoodIn wsX4_gradeOf wsX2_grade := goodIn_r _ [19, 20, 28, 29, 30, 31, 32, 33, 34] (by decide +kernel) (by decide +kernel)
set_option maxRecDepth 20000 in
theorem gX4_gradeOf_X2_grade : GoodIn wsX4_gradeOf (wsV RX4 125 RX2 yX2_grade wsX2_grade) := goodIn_app (goodIn_of _ (by decide +kernel)) ggX4_gradeOf_X2_grade
theorem dX4_gradeOf_0 : decode cX4_gradeOf 0 = .ok (.aload_n 0, 1) := by decide +kernel
theorem dX4_gradeOf_1 : decode cX4_gradeOf 1 = .ok (.iload_n 1, 1) := by decide +kernel
theorem dX4_gradeOf_2 : decode cX4_gradeOf 2 = .ok (.invokevirtual 49, 3) := by decide +kernel
theorem dX4_gradeOf_5 : decode cX4_gradeOf 5 = .ok (.aload_n 0, 1) := by decide +kernel
theorem dX4_gradeOf_6 : decode cX4_gradeOf 6 = .ok (.getfield 10, 3) := by decide +kernel
theorem dX4_gradeOf_9 : decode cX4_gradeOf 9 = .ok (.getfield 30, 3) := by decide +kernel
theorem dX4_gradeOf_12 : decode cX4_gradeOf 12 = .ok (.iload_n 1, 1) := by decide +kernel
theorem dX4_gradeOf_13 : decode cX4_gradeOf 13 = .ok (.invokevirtual 125, 3) := by decide +kernel
theorem dX4_gradeOf_16 : decode cX4_gradeOf 16 = .ok (.ireturn, 1) := by decide +kernel
set_option maxRecDepth 20000 in
theorem ggX4_ghostsOf_X4_requireRuin : GoodIn wsX4_ghostsOf wsX4_requireRuin := goodIn_ca (goodIn_r _ [8, 9, 10, 1, 2, 11, 12, 13, 14, 15, 16, 17, 18, 19, 20, 21, 22, 23, 24, 25, 26, 27, 28, 29, 30] (by decide +kernel) (by decide +kernel)) (goodIn_sub (fun _ h => List.mem_cons_of_mem _ (List.mem_append_right _ h)) (by decide +kernel))
set_option maxRecDepth 20000 in
theorem gX4_ghostsOf_X4_requireRuin : GoodIn wsX4_ghostsOf (wsV RX4 49 RX4 yX4_requireRuin wsX4_requireRuin) := goodIn_app (goodIn_of _ (by decide +kernel)) ggX4_ghostsOf_X4_requireRuin
theorem dX4_ghostsOf_0 : decode cX4_ghostsOf 0 = .ok (.aload_n 0, 1) := by decide +kernel
theorem dX4_ghostsOf_1 : decode cX4_ghostsOf 1 = .ok (.iload_n 1, 1) := by decide +kernel
theorem dX4_ghostsOf_2 : decode cX4_ghostsOf 2 = .ok (.invokevirtual 49, 3) := by decide +kernel
theorem dX4_ghostsOf_5 : decode cX4_ghostsOf 5 = .ok (.aload_n 0, 1) := by decide +kernel
theorem dX4_ghostsOf_6 : decode cX4_ghostsOf 6 = .ok (.getfield 10, 3) := by decide +kernel
theorem dX4_ghostsOf_9 : decode cX4_ghostsOf 9 = .ok (.getfield 30, 3) := by decide +kernel
theorem dX4_ghostsOf_12 : decode cX4_ghostsOf 12 = .ok (.getfield 128, 3) := by decide +kernel
theorem dX4_ghostsOf_15 : decode cX4_ghostsOf 15 = .ok (.iload_n 1, 1) := by decide +kernel
theorem dX4_ghostsOf_16 : decode cX4_ghostsOf 16 = .ok (.iaload, 1) := by decide +kernel
theorem dX4_ghostsOf_17 : decode cX4_ghostsOf 17 = .ok (.ireturn, 1) := by decide +kernel
set_option maxRecDepth 20000 in
theorem ggX4_hasCollapsed_X4_requireRuin : GoodIn wsX4_hasCollapsed wsX4_requireRuin := goodIn_ca (goodIn_r _ [7, 8, 9, 1, 2, 10, 11, 12, 13, 14, 15, 22, 23, 24, 25, 26, 27, 28, 29, 30, 31, 32, 33, 34, 35] (by decide +kernel) (by decide +kernel)) (goodIn_sub (fun _ h => List.mem_cons_of_mem _ (List.mem_append_right _ h)) (by decide +kernel))
set_option maxRecDepth 20000 in
theorem gX4_hasCollapsed_X4_requireRuin : GoodIn wsX4_hasCollapsed (wsV RX4 49 RX4 yX4_requireRuin wsX4_requireRuin) := goodIn_app (goodIn_of _ (by decide +kernel)) ggX4_hasCollapsed_X4_requireRuin
set_option maxRecDepth 20000 in
theorem ggX4_hasCollapsed_X2_stands : GoodIn wsX4_hasCollapsed wsX2_stands := goodIn_r _ [19, 20, 21, 11, 12, 13, 14, 15, 29, 30, 31, 32, 33, 34, 35] (by decide +kernel) (by decide +kernel)
set_option maxRecDepth 20000 in
theorem gX4_hasCollapsed_X2_stands : GoodIn wsX4_hasCollapsed (wsV RX4 63 RX2 yX2_stands wsX2_stands) := goodIn_app (goodIn_of _ (by decide +kernel)) ggX4_hasCollapsed_X2_stands
theorem dX4_hasCollapsed_0 : decode cX4_hasCollapsed 0 = .ok (.aload_n 0, 1) := by decide +kernel
theorem dX4_hasCollapsed_1 : decode cX4_hasCollapsed 1 = .ok (.iload_n 1, 1) := by decide +kernel
theorem dX4_hasCollapsed_2 : decode cX4_hasCollapsed 2 = .ok (.invokevirtual 49, 3) := by decide +kernel
theorem dX4_hasCollapsed_5 : decode cX4_hasCollapsed 5 = .ok (.aload_n 0, 1) := by decide +kernel
theorem dX4_hasCollapsed_6 : decode cX4_hasCollapsed 6 = .ok (.getfield 10, 3) := by decide +kernel
theorem dX4_hasCollapsed_9 : decode cX4_hasCollapsed 9 = .ok (.getfield 30, 3) := by decide +kernel
theorem dX4_hasCollapsed_12 : decode cX4_hasCollapsed 12 = .ok (.iload_n 1, 1) := by decide +kernel
theorem dX4_hasCollapsed_13 : decode cX4_hasCollapsed 13 = .ok (.invokevirtual 63, 3) := by decide +kernel
theorem dX4_hasCollapsed_16 : decode cX4_hasCollapsed 16 = .ok (.ifCond .ne 7, 3) := by decide +kernel
theorem dX4_hasCollapsed_19 : decode cX4_hasCollapsed 19 = .ok (.iconst 1, 1) := by decide +kernel
theorem dX4_hasCollapsed_20 : decode cX4_hasCollapsed 20 = .ok (.goto 4, 3) := by decide +kernel
theorem dX4_hasCollapsed_23 : decode cX4_hasCollapsed 23 = .ok (.iconst 0, 1) := by decide +kernel
theorem dX4_hasCollapsed_24 : decode cX4_hasCollapsed 24 = .ok (.ireturn, 1) := by decide +kernel
set_option maxRecDepth 20000 in
theorem ggX4_viewOf_X4_requireRuin : GoodIn wsX4_viewOf wsX4_requireRuin := goodIn_ca (goodIn_r _ [8, 9, 10, 1, 2, 11, 12, 13, 14, 15, 16, 35, 36, 37, 38, 39, 40, 41, 42, 43, 44, 45, 46, 47, 48] (by decide +kernel) (by decide +kernel)) (goodIn_sub (fun _ h => List.mem_cons_of_mem _ (List.mem_append_right _ h)) (by decide +kernel))
set_option maxRecDepth 20000 in
theorem gX4_viewOf_X4_requireRuin : GoodIn wsX4_viewOf (wsV RX4 49 RX4 yX4_requireRuin wsX4_requireRuin) := goodIn_app (goodIn_of _ (by decide +kernel)) ggX4_viewOf_X4_requireRuin
set_option maxRecDepth 20000 in
theorem ggX4_viewOf_X0_brightnessOn : GoodIn wsX4_viewOf wsX0_brightnessOn := goodIn_r _ [20, 21, 22, 19, 23] (by decide +kernel) (by decide +kernel)
set_option maxRecDepth 20000 in
theorem gX4_viewOf_X0_brightnessOn : GoodIn wsX4_viewOf (va_wsS RX4 115 yX0_brightnessOn wsX0_brightnessOn) := goodIn_app (goodIn_of _ (by decide +kernel)) ggX4_viewOf_X0_brightnessOn
set_option maxRecDepth 20000 in
theorem ggX4_viewOf_X2_view : GoodIn wsX4_viewOf wsX2_view := goodIn_r _ [27, 28, 29, 30, 31, 32, 14, 33, 34, 42, 43, 44, 45, 46, 47, 48] (by decide +kernel) (by decide +kernel)
set_option maxRecDepth 20000 in
theorem gX4_viewOf_X2_view : GoodIn wsX4_viewOf (wsV RX4 131 RX2 yX2_view wsX2_view) := goodIn_app (goodIn_of _ (by decide +kernel)) ggX4_viewOf_X2_view
theorem dX4_viewOf_0 : decode cX4_viewOf 0 = .ok (.aload_n 0, 1) := by decide +kernel
theorem dX4_viewOf_1 : decode cX4_viewOf 1 = .ok (.iload_n 1, 1) := by decide +kernel
theorem dX4_viewOf_2 : decode cX4_viewOf 2 = .ok (.invokevirtual 49, 3) := by decide +kernel
theorem dX4_viewOf_5 : decode cX4_viewOf 5 = .ok (.aload_n 0, 1) := by decide +kernel
theorem dX4_viewOf_6 : decode cX4_viewOf 6 = .ok (.getfield 10, 3) := by decide +kernel
theorem dX4_viewOf_9 : decode cX4_viewOf 9 = .ok (.getfield 30, 3) := by decide +kernel
theorem dX4_viewOf_12 : decode cX4_viewOf 12 = .ok (.iload_n 1, 1) := by decide +kernel
theorem dX4_viewOf_13 : decode cX4_viewOf 13 = .ok (.aload_n 0, 1) := by decide +kernel
theorem dX4_viewOf_14 : decode cX4_viewOf 14 = .ok (.getfield 10, 3) := by decide +kernel
theorem dX4_viewOf_17 : decode cX4_viewOf 17 = .ok (.getfield 96, 3) := by decide +kernel
theorem dX4_viewOf_20 : decode cX4_viewOf 20 = .ok (.invokestatic 115, 3) := by decide +kernel
theorem dX4_viewOf_23 : decode cX4_viewOf 23 = .ok (.invokevirtual 131, 3) := by decide +kernel
theorem dX4_viewOf_26 : decode cX4_viewOf 26 = .ok (.ireturn, 1) := by decide +kernel
set_option maxRecDepth 20000 in
theorem ggX4_rankOf_X4_requireRuin : GoodIn wsX4_rankOf wsX4_requireRuin := goodIn_ca (goodIn_r _ [8, 9, 10, 1, 2, 11, 12, 13, 14, 15, 16, 57, 58, 59, 60, 61, 62, 63, 64, 65, 66, 67, 68, 69, 70] (by decide +kernel) (by decide +kernel)) (goodIn_sub (fun _ h => List.mem_cons_of_mem _ (List.mem_append_right _ h)) (by decide +kernel))
set_option maxRecDepth 20000 in
theorem gX4_rankOf_X4_requireRuin : GoodIn wsX4_rankOf (wsV RX4 49 RX4 yX4_requireRuin wsX4_requireRuin) := goodIn_app (goodIn_of _ (by decide +kernel)) ggX4_rankOf_X4_requireRuin
set_option maxRecDepth 20000 in
theorem ggX4_rankOf_X1_rankRuins : GoodIn wsX4_rankOf wsX1_rankRuins := goodIn_r _ [21, 22, 23, 24, 25, 26, 27, 28, 29, 30, 31, 32, 33, 14, 34, 16, 35, 36, 37, 38, 39, 40, 41, 42, 43, 44, 45, 46, 47, 48, 49, 50, 51, 52, 53, 54, 55, 56, 59, 60, 61, 62, 63, 64, 65, 66, 67, 68, 69, 70] (by decide +kernel) (by decide +kernel)
set_option maxRecDepth 20000 in
theorem gX4_rankOf_X1_rankRuins : GoodIn wsX4_rankOf (wsV RX4 135 RX1 yX1_rankRuins wsX1_rankRuins) := goodIn_app (goodIn_of _ (by decide +kernel)) ggX4_rankOf_X1_rankRuins
theorem dX4_rankOf_0 : decode cX4_rankOf 0 = .ok (.aload_n 0, 1) := by decide +kernel
theorem dX4_rankOf_1 : decode cX4_rankOf 1 = .ok (.iload_n 1, 1) := by decide +kernel
theorem dX4_rankOf_2 : decode cX4_rankOf 2 = .ok (.invokevirtual 49, 3) := by decide +kernel
theorem dX4_rankOf_5 : decode cX4_rankOf 5 = .ok (.aload_n 0, 1) := by decide +kernel
theorem dX4_rankOf_6 : decode cX4_rankOf 6 = .ok (.getfield 10, 3) := by decide +kernel
theorem dX4_rankOf_9 : decode cX4_rankOf 9 = .ok (.invokevirtual 135, 3) := by decide +kernel
theorem dX4_rankOf_12 : decode cX4_rankOf 12 = .ok (.aload_n 0, 1) := by decide +kernel
theorem dX4_rankOf_13 : decode cX4_rankOf 13 = .ok (.getfield 10, 3) := by decide +kernel
theorem dX4_rankOf_16 : decode cX4_rankOf 16 = .ok (.getfield 30, 3) := by decide +kernel
theorem dX4_rankOf_19 : decode cX4_rankOf 19 = .ok (.getfield 138, 3) := by decide +kernel
theorem dX4_rankOf_22 : decode cX4_rankOf 22 = .ok (.iload_n 1, 1) := by decide +kernel
theorem dX4_rankOf_23 : decode cX4_rankOf 23 = .ok (.iaload, 1) := by decide +kernel
theorem dX4_rankOf_24 : decode cX4_rankOf 24 = .ok (.ireturn, 1) := by decide +kernel
set_option maxRecDepth 20000 in
theorem ggX4_ruinAt_X2_countStanding : GoodIn wsX4_ruinAt wsX2_countStanding := goodIn_r _ [9, 10, 11, 66, 67, 68, 69, 70, 71, 72] (by decide +kernel) (by decide +kernel)
set_option maxRecDepth 20000 in
theorem gX4_ruinAt_X2_countStanding : GoodIn wsX4_ruinAt (wsV RX4 121 RX2 yX2_countStanding wsX2_countStanding) := goodIn_app (goodIn_of _ (by decide +kernel)) ggX4_ruinAt_X2_countStanding
set_option maxRecDepth 20000 in
theorem ggX4_ruinAt_X4_isWithin : GoodIn wsX4_ruinAt wsX4_isWithin := goodIn_r _ [15] (by decide +kernel) (by decide +kernel)
set_option maxRecDepth 20000 in
theorem gX4_ruinAt_X4_isWithin : GoodIn wsX4_ruinAt (va_wsS RX4 19 yX4_isWithin wsX4_isWithin) := goodIn_app (goodIn_of _ (by decide +kernel)) ggX4_ruinAt_X4_isWithin
set_option maxRecDepth 20000 in
theorem ggX4_ruinAt_X1_rankRuins : GoodIn wsX4_ruinAt wsX1_rankRuins := goodIn_r _ [20, 21, 22, 23, 24, 25, 26, 27, 28, 29, 30, 31, 32, 8, 33, 10, 34, 35, 11, 36, 37, 38, 39, 40, 41, 42, 43, 44, 45, 46, 47, 48, 49, 50, 51, 52, 53, 54, 61, 62, 63, 64, 65, 66, 67, 68, 69, 70, 71, 72] (by decide +kernel) (by decide +kernel)
set_option maxRecDepth 20000 in
theorem gX4_ruinAt_X1_rankRuins : GoodIn wsX4_ruinAt (wsV RX4 135 RX1 yX1_rankRuins wsX1_rankRuins) := goodIn_app (goodIn_of _ (by decide +kernel)) ggX4_ruinAt_X1_rankRuins
set_option maxRecDepth 20000 in
theorem ggX4_ruinAt_X2_findRank : GoodIn wsX4_ruinAt wsX2_findRank := goodIn_r _ [58, 10, 35, 66, 67, 68, 69, 70, 71, 72] (by decide +kernel) (by decide +kernel)
set_option maxRecDepth 20000 in
theorem gX4_ruinAt_X2_findRank : GoodIn wsX4_ruinAt (wsV RX4 146 RX2 yX2_findRank wsX2_findRank) := goodIn_app (goodIn_of _ (by decide +kernel)) ggX4_ruinAt_X2_findRank
theorem dX4_ruinAt_0 : decode cX4_ruinAt 0 = .ok (.iload_n 1, 1) := by decide +kernel
theorem dX4_ruinAt_1 : decode cX4_ruinAt 1 = .ok (.iconst 0, 1) := by decide +kernel
theorem dX4_ruinAt_2 : decode cX4_ruinAt 2 = .ok (.aload_n 0, 1) := by decide +kernel
theorem dX4_ruinAt_3 : decode cX4_ruinAt 3 = .ok (.getfield 10, 3) := by decide +kernel
theorem dX4_ruinAt_6 : decode cX4_ruinAt 6 = .ok (.getfield 30, 3) := by decide +kernel
theorem dX4_ruinAt_9 : decode cX4_ruinAt 9 = .ok (.invokevirtual 121, 3) := by decide +kernel
theorem dX4_ruinAt_12 : decode cX4_ruinAt 12 = .ok (.iconst 1, 1) := by decide +kernel
theorem dX4_ruinAt_13 : decode cX4_ruinAt 13 = .ok (.isub, 1) := by decide +kernel
theorem dX4_ruinAt_14 : decode cX4_ruinAt 14 = .ok (.invokestatic 19, 3) := by decide +kernel
theorem dX4_ruinAt_17 : decode cX4_ruinAt 17 = .ok (.ifCond .ne 13, 3) := by decide +kernel
theorem dX4_ruinAt_20 : decode cX4_ruinAt 20 = .ok (.new 141, 3) := by decide +kernel
theorem dX4_ruinAt_23 : decode cX4_ruinAt 23 = .ok (.dup, 1) := by decide +kernel
theorem dX4_ruinAt_24 : decode cX4_ruinAt 24 = .ok (.ldc 143, 2) := by decide +kernel
theorem dX4_ruinAt_26 : decode cX4_ruinAt 26 = .ok (.invokespecial 145, 3) := by decide +kernel
theorem dX4_ruinAt_29 : decode cX4_ruinAt 29 = .ok (.athrow, 1) := by decide +kernel
theorem dX4_ruinAt_30 : decode cX4_ruinAt 30 = .ok (.aload_n 0, 1) := by decide +kernel
theorem dX4_ruinAt_31 : decode cX4_ruinAt 31 = .ok (.getfield 10, 3) := by decide +kernel
theorem dX4_ruinAt_34 : decode cX4_ruinAt 34 = .ok (.invokevirtual 135, 3) := by decide +kernel
theorem dX4_ruinAt_37 : decode cX4_ruinAt 37 = .ok (.aload_n 0, 1) := by decide +kernel
theorem dX4_ruinAt_38 : decode cX4_ruinAt 38 = .ok (.getfield 10, 3) := by decide +kernel
theorem dX4_ruinAt_41 : decode cX4_ruinAt 41 = .ok (.getfield 30, 3) := by decide +kernel
theorem dX4_ruinAt_44 : decode cX4_ruinAt 44 = .ok (.iload_n 1, 1) := by decide +kernel
theorem dX4_ruinAt_45 : decode cX4_ruinAt 45 = .ok (.invokevirtual 146, 3) := by decide +kernel
theorem dX4_ruinAt_48 : decode cX4_ruinAt 48 = .ok (.ireturn, 1) := by decide +kernel
set_option maxRecDepth 20000 in
theorem ggX4_guestsOf_X4_requireRuin : GoodIn wsX4_guestsOf wsX4_requireRuin := goodIn_ca (goodIn_r _ [8, 9, 10, 1, 2, 11, 12, 13, 14, 15, 16, 62, 63, 64, 65, 66, 67, 68, 69, 70, 71, 72, 73, 74, 75] (by decide +kernel) (by decide +kernel)) (goodIn_sub (fun _ h => List.mem_cons_of_mem _ (List.mem_append_right _ h)) (by decide +kernel))
set_option maxRecDepth 20000 in
theorem gX4_guestsOf_X4_requireRuin : GoodIn wsX4_guestsOf (wsV RX4 49 RX4 yX4_requireRuin wsX4_requireRuin) := goodIn_app (goodIn_of _ (by decide +kernel)) ggX4_guestsOf_X4_requireRuin
set_option maxRecDepth 20000 in
theorem ggX4_guestsOf_X1_rankRuins : GoodIn wsX4_guestsOf wsX1_rankRuins := goodIn_r _ [21, 22, 23, 24, 25, 26, 27, 28, 29, 30, 31, 32, 33, 14, 34, 16, 35, 36, 37, 38, 39, 40, 41, 42, 43, 44, 45, 46, 47, 48, 49, 50, 51, 52, 53, 54, 55, 56, 64, 65, 66, 67, 68, 69, 70, 71, 72, 73, 74, 75] (by decide +kernel) (by decide +kernel)
set_option maxRecDepth 20000 in
theorem gX4_guestsOf_X1_rankRuins : GoodIn wsX4_guestsOf (wsV RX4 135 RX1 yX1_rankRuins wsX1_rankRuins) := goodIn_app (goodIn_of _ (by decide +kernel)) ggX4_guestsOf_X1_rankRuins
set_option maxRecDepth 20000 in
theorem ggX4_guestsOf_X1_guestsAtRank : GoodIn wsX4_guestsOf wsX1_guestsAtRank := goodIn_r _ [60, 61, 64, 65, 66, 67, 68] (by decide +kernel) (by decide +kernel)
set_option maxRecDepth 20000 in
theorem gX4_guestsOf_X1_guestsAtRank : GoodIn wsX4_guestsOf (wsV RX4 149 RX1 yX1_guestsAtRank wsX1_guestsAtRank) := goodIn_app (goodIn_of _ (by decide +kernel)) ggX4_guestsOf_X1_guestsAtRank
theorem dX4_guestsOf_0 : decode cX4_guestsOf 0 = .ok (.aload_n 0, 1) := by decide +kernel
theorem dX4_guestsOf_1 : decode cX4_guestsOf 1 = .ok (.iload_n 1, 1) := by decide +kernel
theorem dX4_guestsOf_2 : decode cX4_guestsOf 2 = .ok (.invokevirtual 49, 3) := by decide +kernel
theorem dX4_guestsOf_5 : decode cX4_guestsOf 5 = .ok (.aload_n 0, 1) := by decide +kernel
theorem dX4_guestsOf_6 : decode cX4_guestsOf 6 = .ok (.getfield 10, 3) := by decide +kernel
theorem dX4_guestsOf_9 : decode cX4_guestsOf 9 = .ok (.invokevirtual 135, 3) := by decide +kernel
theorem dX4_guestsOf_12 : decode cX4_guestsOf 12 = .ok (.aload_n 0, 1) := by decide +kernel
theorem dX4_guestsOf_13 : decode cX4_guestsOf 13 = .ok (.getfield 10, 3) := by decide +kernel
theorem dX4_guestsOf_16 : decode cX4_guestsOf 16 = .ok (.aload_n 0, 1) := by decide +kernel
theorem dX4_guestsOf_17 : decode cX4_guestsOf 17 = .ok (.getfield 10, 3) := by decide +kernel
theorem dX4_guestsOf_20 : decode cX4_guestsOf 20 = .ok (.getfield 30, 3) := by decide +kernel
theorem dX4_guestsOf_23 : decode cX4_guestsOf 23 = .ok (.getfield 138, 3) := by decide +kernel
theorem dX4_guestsOf_26 : decode cX4_guestsOf 26 = .ok (.iload_n 1, 1) := by decide +kernel
theorem dX4_guestsOf_27 : decode cX4_guestsOf 27 = .ok (.iaload, 1) := by decide +kernel
theorem dX4_guestsOf_28 : decode cX4_guestsOf 28 = .ok (.invokevirtual 149, 3) := by decide +kernel
theorem dX4_guestsOf_31 : decode cX4_guestsOf 31 = .ok (.ireturn, 1) := by decide +kernel
theorem dX4_tickets_0 : decode cX4_tickets 0 = .ok (.aload_n 0, 1) := by decide +kernel
theorem dX4_tickets_1 : decode cX4_tickets 1 = .ok (.getfield 10, 3) := by decide +kernel
theorem dX4_tickets_4 : decode cX4_tickets 4 = .ok (.getfield 87, 3) := by decide +kernel
theorem dX4_tickets_7 : decode cX4_tickets 7 = .ok (.getfield 91, 3) := by decide +kernel
theorem dX4_tickets_10 : decode cX4_tickets 10 = .ok (.ireturn, 1) := by decide +kernel
set_option maxRecDepth 20000 in
theorem ggX4_dayOf_X4_requireTicket : GoodIn wsX4_dayOf wsX4_requireTicket := goodIn_ca (goodIn_r _ [8, 9, 10, 1, 2, 11, 12, 13, 14, 15, 16, 17, 18, 19, 20, 21, 22, 23, 24, 25, 26, 27, 28] (by decide +kernel) (by decide +kernel)) (goodIn_sub (fun _ h => List.mem_cons_of_mem _ (List.mem_append_right _ h)) (by decide +kernel))
set_option maxRecDepth 20000 in
theorem gX4_dayOf_X4_requireTicket : GoodIn wsX4_dayOf (wsV RX4 152 RX4 yX4_requireTicket wsX4_requireTicket) := goodIn_app (goodIn_of _ (by decide +kernel)) ggX4_dayOf_X4_requireTicket
theorem dX4_dayOf_0 : decode cX4_dayOf 0 = .ok (.aload_n 0, 1) := by decide +kernel
theorem dX4_dayOf_1 : decode cX4_dayOf 1 = .ok (.iload_n 1, 1) := by decide +kernel
theorem dX4_dayOf_2 : decode cX4_dayOf 2 = .ok (.invokevirtual 152, 3) := by decide +kernel
theorem dX4_dayOf_5 : decode cX4_dayOf 5 = .ok (.aload_n 0, 1) := by decide +kernel
theorem dX4_dayOf_6 : decode cX4_dayOf 6 = .ok (.getfield 10, 3) := by decide +kernel
theorem dX4_dayOf_9 : decode cX4_dayOf 9 = .ok (.getfield 87, 3) := by decide +kernel
theorem dX4_dayOf_12 : decode cX4_dayOf 12 = .ok (.getfield 155, 3) := by decide +kernel
theorem dX4_dayOf_15 : decode cX4_dayOf 15 = .ok (.iload_n 1, 1) := by decide +kernel
theorem dX4_dayOf_16 : decode cX4_dayOf 16 = .ok (.iaload, 1) := by decide +kernel
theorem dX4_dayOf_17 : decode cX4_dayOf 17 = .ok (.ireturn, 1) := by decide +kernel
set_option maxRecDepth 20000 in
theorem ggX4_isOpen_X4_requireTicket : GoodIn wsX4_isOpen wsX4_requireTicket := goodIn_ca (goodIn_r _ [8, 9, 10, 1, 2, 11, 12, 13, 14, 15, 16, 17, 18, 19, 20, 21, 22, 23, 24, 25, 26, 27, 28] (by decide +kernel) (by decide +kernel)) (goodIn_sub (fun _ h => List.mem_cons_of_mem _ (List.mem_append_right _ h)) (by decide +kernel))
set_option maxRecDepth 20000 in
theorem gX4_isOpen_X4_requireTicket : GoodIn wsX4_isOpen (wsV RX4 152 RX4 yX4_requireTicket wsX4_requireTicket) := goodIn_app (goodIn_of _ (by decide +kernel)) ggX4_isOpen_X4_requireTicket
theorem dX4_isOpen_0 : decode cX4_isOpen 0 = .ok (.aload_n 0, 1) := by decide +kernel
theorem dX4_isOpen_1 : decode cX4_isOpen 1 = .ok (.iload_n 1, 1) := by decide +kernel
theorem dX4_isOpen_2 : decode cX4_isOpen 2 = .ok (.invokevirtual 152, 3) := by decide +kernel
theorem dX4_isOpen_5 : decode cX4_isOpen 5 = .ok (.aload_n 0, 1) := by decide +kernel
theorem dX4_isOpen_6 : decode cX4_isOpen 6 = .ok (.getfield 10, 3) := by decide +kernel
theorem dX4_isOpen_9 : decode cX4_isOpen 9 = .ok (.getfield 87, 3) := by decide +kernel
theorem dX4_isOpen_12 : decode cX4_isOpen 12 = .ok (.getfield 158, 3) := by decide +kernel
theorem dX4_isOpen_15 : decode cX4_isOpen 15 = .ok (.iload_n 1, 1) := by decide +kernel
theorem dX4_isOpen_16 : decode cX4_isOpen 16 = .ok (.iaload, 1) := by decide +kernel
theorem dX4_isOpen_17 : decode cX4_isOpen 17 = .ok (.ifCond .ne 7, 3) := by decide +kernel
theorem dX4_isOpen_20 : decode cX4_isOpen 20 = .ok (.iconst 1, 1) := by decide +kernel
theorem dX4_isOpen_21 : decode cX4_isOpen 21 = .ok (.goto 4, 3) := by decide +kernel
theorem dX4_isOpen_24 : decode cX4_isOpen 24 = .ok (.iconst 0, 1) := by decide +kernel
theorem dX4_isOpen_25 : decode cX4_isOpen 25 = .ok (.ireturn, 1) := by decide +kernel
set_option maxRecDepth 20000 in
theorem ggX4_isPaidBack_X4_requireTicket : GoodIn wsX4_isPaidBack wsX4_requireTicket := goodIn_ca (goodIn_r _ [8, 9, 10, 1, 2, 11, 12, 13, 14, 15, 16, 17, 18, 19, 20, 21, 22, 23, 24, 25, 26, 27, 28] (by decide +kernel) (by decide +kernel)) (goodIn_sub (fun _ h => List.mem_cons_of_mem _ (List.mem_append_right _ h)) (by decide +kernel))
set_option maxRecDepth 20000 in
theorem gX4_isPaidBack_X4_requireTicket : GoodIn wsX4_isPaidBack (wsV RX4 152 RX4 yX4_requireTicket wsX4_requireTicket) := goodIn_app (goodIn_of _ (by decide +kernel)) ggX4_isPaidBack_X4_requireTicket
theorem dX4_isPaidBack_0 : decode cX4_isPaidBack 0 = .ok (.aload_n 0, 1) := by decide +kernel
theorem dX4_isPaidBack_1 : decode cX4_isPaidBack 1 = .ok (.iload_n 1, 1) := by decide +kernel
theorem dX4_isPaidBack_2 : decode cX4_isPaidBack 2 = .ok (.invokevirtual 152, 3) := by decide +kernel
theorem dX4_isPaidBack_5 : decode cX4_isPaidBack 5 = .ok (.aload_n 0, 1) := by decide +kernel
theorem dX4_isPaidBack_6 : decode cX4_isPaidBack 6 = .ok (.getfield 10, 3) := by decide +kernel
theorem dX4_isPaidBack_9 : decode cX4_isPaidBack 9 = .ok (.getfield 87, 3) := by decide +kernel
theorem dX4_isPaidBack_12 : decode cX4_isPaidBack 12 = .ok (.getfield 158, 3) := by decide +kernel
theorem dX4_isPaidBack_15 : decode cX4_isPaidBack 15 = .ok (.iload_n 1, 1) := by decide +kernel
theorem dX4_isPaidBack_16 : decode cX4_isPaidBack 16 = .ok (.iaload, 1) := by decide +kernel
theorem dX4_isPaidBack_17 : decode cX4_isPaidBack 17 = .ok (.iconst 2, 1) := by decide +kernel
theorem dX4_isPaidBack_18 : decode cX4_isPaidBack 18 = .ok (.if_icmp .ne 7, 3) := by decide +kernel
theorem dX4_isPaidBack_21 : decode cX4_isPaidBack 21 = .ok (.iconst 1, 1) := by decide +kernel
theorem dX4_isPaidBack_22 : decode cX4_isPaidBack 22 = .ok (.goto 4, 3) := by decide +kernel
theorem dX4_isPaidBack_25 : decode cX4_isPaidBack 25 = .ok (.iconst 0, 1) := by decide +kernel
theorem dX4_isPaidBack_26 : decode cX4_isPaidBack 26 = .ok (.ireturn, 1) := by decide +kernel
set_option maxRecDepth 20000 in
theorem ggX4_meanView_X2_countStanding : GoodIn wsX4_meanView wsX2_countStanding := goodIn_r _ [8, 9, 10, 39, 40, 41, 42, 43, 44, 45] (by decide +kernel) (by decide +kernel)
set_option maxRecDepth 20000 in
theorem gX4_meanView_X2_countStanding : GoodIn wsX4_meanView (wsV RX4 121 RX2 yX2_countStanding wsX2_countStanding) := goodIn_app (goodIn_of _ (by decide +kernel)) ggX4_meanView_X2_countStanding
set_option maxRecDepth 20000 in
theorem ggX4_meanView_X0_brightnessOn : GoodIn wsX4_meanView wsX0_brightnessOn := goodIn_r _ [14, 15, 16, 13, 17] (by decide +kernel) (by decide +kernel)
set_option maxRecDepth 20000 in
theorem gX4_meanView_X0_brightnessOn : GoodIn wsX4_meanView (va_wsS RX4 115 yX0_brightnessOn wsX0_brightnessOn) := goodIn_app (goodIn_of _ (by decide +kernel)) ggX4_meanView_X0_brightnessOn
set_option maxRecDepth 20000 in
theorem ggX4_meanView_X2_sumViews : GoodIn wsX4_meanView wsX2_sumViews := goodIn_r _ [21, 9, 22, 23, 24, 7, 25, 10, 26, 27, 28, 29, 30, 31, 39, 40, 41, 42, 43, 44, 45] (by decide +kernel) (by decide +kernel)
set_option maxRecDepth 20000 in
theorem gX4_meanView_X2_sumViews : GoodIn wsX4_meanView (wsV RX4 182 RX2 yX2_sumViews wsX2_sumViews) := goodIn_app (goodIn_of _ (by decide +kernel)) ggX4_meanView_X2_sumViews
theorem dX4_meanView_0 : decode cX4_meanView 0 = .ok (.aload_n 0, 1) := by decide +kernel
theorem dX4_meanView_1 : decode cX4_meanView 1 = .ok (.getfield 10, 3) := by decide +kernel
theorem dX4_meanView_4 : decode cX4_meanView 4 = .ok (.getfield 30, 3) := by decide +kernel
theorem dX4_meanView_7 : decode cX4_meanView 7 = .ok (.invokevirtual 121, 3) := by decide +kernel
theorem dX4_meanView_10 : decode cX4_meanView 10 = .ok (.istore_n 1, 1) := by decide +kernel
theorem dX4_meanView_11 : decode cX4_meanView 11 = .ok (.iload_n 1, 1) := by decide +kernel
theorem dX4_meanView_12 : decode cX4_meanView 12 = .ok (.ifCond .ne 5, 3) := by decide +kernel
theorem dX4_meanView_15 : decode cX4_meanView 15 = .ok (.dconst 0, 1) := by decide +kernel
theorem dX4_meanView_16 : decode cX4_meanView 16 = .ok (.dreturn, 1) := by decide +kernel
theorem dX4_meanView_17 : decode cX4_meanView 17 = .ok (.aload_n 0, 1) := by decide +kernel
theorem dX4_meanView_18 : decode cX4_meanView 18 = .ok (.getfield 10, 3) := by decide +kernel
theorem dX4_meanView_21 : decode cX4_meanView 21 = .ok (.getfield 30, 3) := by decide +kernel
theorem dX4_meanView_24 : decode cX4_meanView 24 = .ok (.aload_n 0, 1) := by decide +kernel
theorem dX4_meanView_25 : decode cX4_meanView 25 = .ok (.getfield 10, 3) := by decide +kernel
theorem dX4_meanView_28 : decode cX4_meanView 28 = .ok (.getfield 96, 3) := by decide +kernel
theorem dX4_meanView_31 : decode cX4_meanView 31 = .ok (.invokestatic 115, 3) := by decide +kernel
theorem dX4_meanView_34 : decode cX4_meanView 34 = .ok (.invokevirtual 182, 3) := by decide +kernel
theorem dX4_meanView_37 : decode cX4_meanView 37 = .ok (.i2d, 1) := by decide +kernel
theorem dX4_meanView_38 : decode cX4_meanView 38 = .ok (.iload_n 1, 1) := by decide +kernel
theorem dX4_meanView_39 : decode cX4_meanView 39 = .ok (.i2d, 1) := by decide +kernel
theorem dX4_meanView_40 : decode cX4_meanView 40 = .ok (.ddiv, 1) := by decide +kernel
theorem dX4_meanView_41 : decode cX4_meanView 41 = .ok (.dreturn, 1) := by decide +kernel
theorem dX4_isWithin_0 : decode cX4_isWithin 0 = .ok (.iload_n 0, 1) := by decide +kernel
theorem dX4_isWithin_1 : decode cX4_isWithin 1 = .ok (.iload_n 1, 1) := by decide +kernel
theorem dX4_isWithin_2 : decode cX4_isWithin 2 = .ok (.if_icmp .lt 12, 3) := by decide +kernel
theorem dX4_isWithin_5 : decode cX4_isWithin 5 = .ok (.iload_n 0, 1) := by decide +kernel
theorem dX4_isWithin_6 : decode cX4_isWithin 6 = .ok (.iload_n 2, 1) := by decide +kernel
theorem dX4_isWithin_7 : decode cX4_isWithin 7 = .ok (.if_icmp .gt 7, 3) := by decide +kernel
theorem dX4_isWithin_10 : decode cX4_isWithin 10 = .ok (.iconst 1, 1) := by decide +kernel
theorem dX4_isWithin_11 : decode cX4_isWithin 11 = .ok (.goto 4, 3) := by decide +kernel
theorem dX4_isWithin_14 : decode cX4_isWithin 14 = .ok (.iconst 0, 1) := by decide +kernel
theorem dX4_isWithin_15 : decode cX4_isWithin 15 = .ok (.ireturn, 1) := by decide +kernel
set_option maxRecDepth 20000 in
theorem ggX4_requireRuin_X2_has : GoodIn wsX4_requireRuin wsX2_has := goodIn_r _ [9, 10, 18, 19, 20, 21, 22, 23, 24] (by decide +kernel) (by decide +kernel)
set_option maxRecDepth 20000 in
theorem gX4_requireRuin_X2_has : GoodIn wsX4_requireRuin (wsV RX4 200 RX2 yX2_has wsX2_has) := goodIn_app (goodIn_of _ (by decide +kernel)) ggX4_requireRuin_X2_has
theorem dX4_requireRuin_0 : decode cX4_requireRuin 0 = .ok (.aload_n 0, 1) := by decide +kernel
theorem dX4_requireRuin_1 : decode cX4_requireRuin 1 = .ok (.getfield 10, 3) := by decide +kernel
theorem dX4_requireRuin_4 : decode cX4_requireRuin 4 = .ok (.getfield 30, 3) := by decide +kernel
theorem dX4_requireRuin_7 : decode cX4_requireRuin 7 = .ok (.iload_n 1, 1) := by decide +kernel
theorem dX4_requireRuin_8 : decode cX4_requireRuin 8 = .ok (.invokevirtual 200, 3) := by decide +kernel
theorem dX4_requireRuin_11 : decode cX4_requireRuin 11 = .ok (.ifCond .ne 13, 3) := by decide +kernel
theorem dX4_requireRuin_14 : decode cX4_requireRuin 14 = .ok (.new 141, 3) := by decide +kernel
theorem dX4_requireRuin_17 : decode cX4_requireRuin 17 = .ok (.dup, 1) := by decide +kernel
theorem dX4_requireRuin_18 : decode cX4_requireRuin 18 = .ok (.ldc 203, 2) := by decide +kernel
theorem dX4_requireRuin_20 : decode cX4_requireRuin 20 = .ok (.invokespecial 145, 3) := by decide +kernel
theorem dX4_requireRuin_23 : decode cX4_requireRuin 23 = .ok (.athrow, 1) := by decide +kernel
theorem dX4_requireRuin_24 : decode cX4_requireRuin 24 = .ok (.return_, 1) := by decide +kernel
set_option maxRecDepth 20000 in
theorem ggX4_requireTicket_X3_has : GoodIn wsX4_requireTicket wsX3_has := goodIn_r _ [9, 10, 18, 19, 20, 21, 22] (by decide +kernel) (by decide +kernel)
set_option maxRecDepth 20000 in
theorem gX4_requireTicket_X3_has : GoodIn wsX4_requireTicket (wsV RX4 205 RX3 yX3_has wsX3_has) := goodIn_app (goodIn_of _ (by decide +kernel)) ggX4_requireTicket_X3_has
theorem dX4_requireTicket_0 : decode cX4_requireTicket 0 = .ok (.aload_n 0, 1) := by decide +kernel
theorem dX4_requireTicket_1 : decode cX4_requireTicket 1 = .ok (.getfield 10, 3) := by decide +kernel
theorem dX4_requireTicket_4 : decode cX4_requireTicket 4 = .ok (.getfield 87, 3) := by decide +kernel
theorem dX4_requireTicket_7 : decode cX4_requireTicket 7 = .ok (.iload_n 1, 1) := by decide +kernel
theorem dX4_requireTicket_8 : decode cX4_requireTicket 8 = .ok (.invokevirtual 205, 3) := by decide +kernel
theorem dX4_requireTicket_11 : decode cX4_requireTicket 11 = .ok (.ifCond .ne 13, 3) := by decide +kernel
theorem dX4_requireTicket_14 : decode cX4_requireTicket 14 = .ok (.new 141, 3) := by decide +kernel
theorem dX4_requireTicket_17 : decode cX4_requireTicket 17 = .ok (.dup, 1) := by decide +kernel
theorem dX4_requireTicket_18 : decode cX4_requireTicket 18 = .ok (.ldc 206, 2) := by decide +kernel
theorem dX4_requireTicket_20 : decode cX4_requireTicket 20 = .ok (.invokespecial 145, 3) := by decide +kernel
theorem dX4_requireTicket_23 : decode cX4_requireTicket 23 = .ok (.athrow, 1) := by decide +kernel
theorem dX4_requireTicket_24 : decode cX4_requireTicket 24 = .ok (.return_, 1) := by decide +kernel
set_option maxRecDepth 20000 in
theorem ggX4_requireDaysToPass_X4_isWithin : GoodIn wsX4_requireDaysToPass wsX4_isWithin := goodIn_r _ [6] (by decide +kernel) (by decide +kernel)
set_option maxRecDepth 20000 in
theorem gX4_requireDaysToPass_X4_isWithin : GoodIn wsX4_requireDaysToPass (va_wsS RX4 19 yX4_isWithin wsX4_isWithin) := goodIn_app (goodIn_of _ (by decide +kernel)) ggX4_requireDaysToPass_X4_isWithin
theorem dX4_requireDaysToPass_0 : decode cX4_requireDaysToPass 0 = .ok (.iload_n 0, 1) := by decide +kernel
theorem dX4_requireDaysToPass_1 : decode cX4_requireDaysToPass 1 = .ok (.iconst 1, 1) := by decide +kernel
theorem dX4_requireDaysToPass_2 : decode cX4_requireDaysToPass 2 = .ok (.bipush 60, 2) := by decide +kernel
theorem dX4_requireDaysToPass_4 : decode cX4_requireDaysToPass 4 = .ok (.invokestatic 19, 3) := by decide +kernel
theorem dX4_requireDaysToPass_7 : decode cX4_requireDaysToPass 7 = .ok (.ifCond .ne 13, 3) := by decide +kernel
theorem dX4_requireDaysToPass_10 : decode cX4_requireDaysToPass 10 = .ok (.new 23, 3) := by decide +kernel
theorem dX4_requireDaysToPass_13 : decode cX4_requireDaysToPass 13 = .ok (.dup, 1) := by decide +kernel
theorem dX4_requireDaysToPass_14 : decode cX4_requireDaysToPass 14 = .ok (.ldc 208, 2) := by decide +kernel
theorem dX4_requireDaysToPass_16 : decode cX4_requireDaysToPass 16 = .ok (.invokespecial 27, 3) := by decide +kernel
theorem dX4_requireDaysToPass_19 : decode cX4_requireDaysToPass 19 = .ok (.athrow, 1) := by decide +kernel
theorem dX4_requireDaysToPass_20 : decode cX4_requireDaysToPass 20 = .ok (.return_, 1) := by decide +kernel
