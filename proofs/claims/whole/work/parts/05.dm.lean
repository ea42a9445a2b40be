theorem dX5_init_0 : decode cX5_init 0 = .ok (.aload_n 0, 1) := by decide +kernel
theorem dX5_init_1 : decode cX5_init 1 = .ok (.invokespecial 1, 3) := by decide +kernel
theorem dX5_init_4 : decode cX5_init 4 = .ok (.aload_n 0, 1) := by decide +kernel
theorem dX5_init_5 : decode cX5_init 5 = .ok (.bipush 12, 2) := by decide +kernel
theorem dX5_init_7 : decode cX5_init 7 = .ok (.putfield 7, 3) := by decide +kernel
theorem dX5_init_10 : decode cX5_init 10 = .ok (.aload_n 0, 1) := by decide +kernel
theorem dX5_init_11 : decode cX5_init 11 = .ok (.bipush 10, 2) := by decide +kernel
theorem dX5_init_13 : decode cX5_init 13 = .ok (.newarray .int, 2) := by decide +kernel
theorem dX5_init_15 : decode cX5_init 15 = .ok (.putfield 13, 3) := by decide +kernel
theorem dX5_init_18 : decode cX5_init 18 = .ok (.aload_n 0, 1) := by decide +kernel
theorem dX5_init_19 : decode cX5_init 19 = .ok (.bipush 30, 2) := by decide +kernel
theorem dX5_init_21 : decode cX5_init 21 = .ok (.newarray .int, 2) := by decide +kernel
theorem dX5_init_23 : decode cX5_init 23 = .ok (.putfield 17, 3) := by decide +kernel
theorem dX5_init_26 : decode cX5_init 26 = .ok (.aload_n 0, 1) := by decide +kernel
theorem dX5_init_27 : decode cX5_init 27 = .ok (.bipush 30, 2) := by decide +kernel
theorem dX5_init_29 : decode cX5_init 29 = .ok (.newarray .int, 2) := by decide +kernel
theorem dX5_init_31 : decode cX5_init 31 = .ok (.putfield 20, 3) := by decide +kernel
theorem dX5_init_34 : decode cX5_init 34 = .ok (.aload_n 0, 1) := by decide +kernel
theorem dX5_init_35 : decode cX5_init 35 = .ok (.bipush 30, 2) := by decide +kernel
theorem dX5_init_37 : decode cX5_init 37 = .ok (.newarray .int, 2) := by decide +kernel
theorem dX5_init_39 : decode cX5_init 39 = .ok (.putfield 23, 3) := by decide +kernel
theorem dX5_init_42 : decode cX5_init 42 = .ok (.aload_n 0, 1) := by decide +kernel
theorem dX5_init_43 : decode cX5_init 43 = .ok (.bipush 62, 2) := by decide +kernel
theorem dX5_init_45 : decode cX5_init 45 = .ok (.newarray .int, 2) := by decide +kernel
theorem dX5_init_47 : decode cX5_init 47 = .ok (.putfield 26, 3) := by decide +kernel
theorem dX5_init_50 : decode cX5_init 50 = .ok (.aload_n 0, 1) := by decide +kernel
theorem dX5_init_51 : decode cX5_init 51 = .ok (.bipush 62, 2) := by decide +kernel
theorem dX5_init_53 : decode cX5_init 53 = .ok (.newarray .int, 2) := by decide +kernel
theorem dX5_init_55 : decode cX5_init 55 = .ok (.putfield 29, 3) := by decide +kernel
theorem dX5_init_58 : decode cX5_init 58 = .ok (.return_, 1) := by decide +kernel
theorem dX5_thrown_0 : decode cX5_thrown 0 = .ok (.aload_n 0, 1) := by decide +kernel
theorem dX5_thrown_1 : decode cX5_thrown 1 = .ok (.getfield 32, 3) := by decide +kernel
theorem dX5_thrown_4 : decode cX5_thrown 4 = .ok (.ireturn, 1) := by decide +kernel
theorem dX5_fail_0 : decode cX5_fail 0 = .ok (.aload_n 0, 1) := by decide +kernel
theorem dX5_fail_1 : decode cX5_fail 1 = .ok (.iload_n 1, 1) := by decide +kernel
theorem dX5_fail_2 : decode cX5_fail 2 = .ok (.putfield 32, 3) := by decide +kernel
theorem dX5_fail_5 : decode cX5_fail 5 = .ok (.iconst 0, 1) := by decide +kernel
theorem dX5_fail_6 : decode cX5_fail 6 = .ok (.ireturn, 1) := by decide +kernel
theorem dX5_told_0 : decode cX5_told 0 = .ok (.aload_n 0, 1) := by decide +kernel
theorem dX5_told_1 : decode cX5_told 1 = .ok (.iconst 0, 1) := by decide +kernel
theorem dX5_told_2 : decode cX5_told 2 = .ok (.putfield 32, 3) := by decide +kernel
theorem dX5_told_5 : decode cX5_told 5 = .ok (.iload_n 1, 1) := by decide +kernel
theorem dX5_told_6 : decode cX5_told 6 = .ok (.ireturn, 1) := by decide +kernel
theorem dX5_isIn_0 : decode cX5_isIn 0 = .ok (.iload_n 0, 1) := by decide +kernel
theorem dX5_isIn_1 : decode cX5_isIn 1 = .ok (.iload_n 1, 1) := by decide +kernel
theorem dX5_isIn_2 : decode cX5_isIn 2 = .ok (.if_icmp .lt 12, 3) := by decide +kernel
theorem dX5_isIn_5 : decode cX5_isIn 5 = .ok (.iload_n 0, 1) := by decide +kernel
theorem dX5_isIn_6 : decode cX5_isIn 6 = .ok (.iload_n 2, 1) := by decide +kernel
theorem dX5_isIn_7 : decode cX5_isIn 7 = .ok (.if_icmp .gt 7, 3) := by decide +kernel
theorem dX5_isIn_10 : decode cX5_isIn 10 = .ok (.iconst 1, 1) := by decide +kernel
theorem dX5_isIn_11 : decode cX5_isIn 11 = .ok (.goto 4, 3) := by decide +kernel
theorem dX5_isIn_14 : decode cX5_isIn 14 = .ok (.iconst 0, 1) := by decide +kernel
theorem dX5_isIn_15 : decode cX5_isIn 15 = .ok (.ireturn, 1) := by decide +kernel
set_option maxRecDepth 20000 in
theorem ggX5_isRuin_X5_isIn : GoodIn wsX5_isRuin wsX5_isIn := goodIn_r _ [5] (by decide +kernel) (by decide +kernel)
set_option maxRecDepth 20000 in
theorem gX5_isRuin_X5_isIn : GoodIn wsX5_isRuin (va_wsS RX5 38 yX5_isIn wsX5_isIn) := goodIn_app (goodIn_of _ (by decide +kernel)) ggX5_isRuin_X5_isIn
theorem dX5_isRuin_0 : decode cX5_isRuin 0 = .ok (.iload_n 1, 1) := by decide +kernel
theorem dX5_isRuin_1 : decode cX5_isRuin 1 = .ok (.iconst 0, 1) := by decide +kernel
theorem dX5_isRuin_2 : decode cX5_isRuin 2 = .ok (.aload_n 0, 1) := by decide +kernel
theorem dX5_isRuin_3 : decode cX5_isRuin 3 = .ok (.getfield 35, 3) := by decide +kernel
theorem dX5_isRuin_6 : decode cX5_isRuin 6 = .ok (.iconst 1, 1) := by decide +kernel
theorem dX5_isRuin_7 : decode cX5_isRuin 7 = .ok (.isub, 1) := by decide +kernel
theorem dX5_isRuin_8 : decode cX5_isRuin 8 = .ok (.invokestatic 38, 3) := by decide +kernel
theorem dX5_isRuin_11 : decode cX5_isRuin 11 = .ok (.ireturn, 1) := by decide +kernel
set_option maxRecDepth 20000 in
theorem ggX5_isTicket_X5_isIn : GoodIn wsX5_isTicket wsX5_isIn := goodIn_r _ [5] (by decide +kernel) (by decide +kernel)
set_option maxRecDepth 20000 in
theorem gX5_isTicket_X5_isIn : GoodIn wsX5_isTicket (va_wsS RX5 38 yX5_isIn wsX5_isIn) := goodIn_app (goodIn_of _ (by decide +kernel)) ggX5_isTicket_X5_isIn
theorem dX5_isTicket_0 : decode cX5_isTicket 0 = .ok (.iload_n 1, 1) := by decide +kernel
theorem dX5_isTicket_1 : decode cX5_isTicket 1 = .ok (.iconst 0, 1) := by decide +kernel
theorem dX5_isTicket_2 : decode cX5_isTicket 2 = .ok (.aload_n 0, 1) := by decide +kernel
theorem dX5_isTicket_3 : decode cX5_isTicket 3 = .ok (.getfield 42, 3) := by decide +kernel
theorem dX5_isTicket_6 : decode cX5_isTicket 6 = .ok (.iconst 1, 1) := by decide +kernel
theorem dX5_isTicket_7 : decode cX5_isTicket 7 = .ok (.isub, 1) := by decide +kernel
theorem dX5_isTicket_8 : decode cX5_isTicket 8 = .ok (.invokestatic 38, 3) := by decide +kernel
theorem dX5_isTicket_11 : decode cX5_isTicket 11 = .ok (.ireturn, 1) := by decide +kernel
theorem dX5_ru_0 : decode cX5_ru 0 = .ok (.aload_n 0, 1) := by decide +kernel
theorem dX5_ru_1 : decode cX5_ru 1 = .ok (.getfield 26, 3) := by decide +kernel
theorem dX5_ru_4 : decode cX5_ru 4 = .ok (.iconst 2, 1) := by decide +kernel
theorem dX5_ru_5 : decode cX5_ru 5 = .ok (.iconst 3, 1) := by decide +kernel
theorem dX5_ru_6 : decode cX5_ru 6 = .ok (.iload_n 1, 1) := by decide +kernel
theorem dX5_ru_7 : decode cX5_ru 7 = .ok (.imul, 1) := by decide +kernel
theorem dX5_ru_8 : decode cX5_ru 8 = .ok (.iadd, 1) := by decide +kernel
theorem dX5_ru_9 : decode cX5_ru 9 = .ok (.iload_n 2, 1) := by decide +kernel
theorem dX5_ru_10 : decode cX5_ru 10 = .ok (.iadd, 1) := by decide +kernel
theorem dX5_ru_11 : decode cX5_ru 11 = .ok (.iaload, 1) := by decide +kernel
theorem dX5_ru_12 : decode cX5_ru 12 = .ok (.ireturn, 1) := by decide +kernel
theorem dX5_let_0 : decode cX5_let 0 = .ok (.aload_n 0, 1) := by decide +kernel
theorem dX5_let_1 : decode cX5_let 1 = .ok (.getfield 26, 3) := by decide +kernel
theorem dX5_let_4 : decode cX5_let 4 = .ok (.iconst 2, 1) := by decide +kernel
theorem dX5_let_5 : decode cX5_let 5 = .ok (.iconst 3, 1) := by decide +kernel
theorem dX5_let_6 : decode cX5_let 6 = .ok (.iload_n 1, 1) := by decide +kernel
theorem dX5_let_7 : decode cX5_let 7 = .ok (.imul, 1) := by decide +kernel
theorem dX5_let_8 : decode cX5_let 8 = .ok (.iadd, 1) := by decide +kernel
theorem dX5_let_9 : decode cX5_let 9 = .ok (.iload_n 2, 1) := by decide +kernel
theorem dX5_let_10 : decode cX5_let 10 = .ok (.iadd, 1) := by decide +kernel
theorem dX5_let_11 : decode cX5_let 11 = .ok (.iload_n 3, 1) := by decide +kernel
theorem dX5_let_12 : decode cX5_let 12 = .ok (.iastore, 1) := by decide +kernel
theorem dX5_let_13 : decode cX5_let 13 = .ok (.return_, 1) := by decide +kernel
theorem dX5_keep_0 : decode cX5_keep 0 = .ok (.aload_n 0, 1) := by decide +kernel
theorem dX5_keep_1 : decode cX5_keep 1 = .ok (.getfield 26, 3) := by decide +kernel
theorem dX5_keep_4 : decode cX5_keep 4 = .ok (.iconst 0, 1) := by decide +kernel
theorem dX5_keep_5 : decode cX5_keep 5 = .ok (.aload_n 0, 1) := by decide +kernel
theorem dX5_keep_6 : decode cX5_keep 6 = .ok (.getfield 29, 3) := by decide +kernel
theorem dX5_keep_9 : decode cX5_keep 9 = .ok (.iconst 0, 1) := by decide +kernel
theorem dX5_keep_10 : decode cX5_keep 10 = .ok (.bipush 62, 2) := by decide +kernel
theorem dX5_keep_12 : decode cX5_keep 12 = .ok (.invokestatic 45, 3) := by decide +kernel
theorem dX5_keep_15 : decode cX5_keep 15 = .ok (.return_, 1) := by decide +kernel
theorem dX5_bringBack_0 : decode cX5_bringBack 0 = .ok (.aload_n 0, 1) := by decide +kernel
theorem dX5_bringBack_1 : decode cX5_bringBack 1 = .ok (.getfield 29, 3) := by decide +kernel
theorem dX5_bringBack_4 : decode cX5_bringBack 4 = .ok (.iconst 0, 1) := by decide +kernel
theorem dX5_bringBack_5 : decode cX5_bringBack 5 = .ok (.aload_n 0, 1) := by decide +kernel
theorem dX5_bringBack_6 : decode cX5_bringBack 6 = .ok (.getfield 26, 3) := by decide +kernel
theorem dX5_bringBack_9 : decode cX5_bringBack 9 = .ok (.iconst 0, 1) := by decide +kernel
theorem dX5_bringBack_10 : decode cX5_bringBack 10 = .ok (.bipush 62, 2) := by decide +kernel
theorem dX5_bringBack_12 : decode cX5_bringBack 12 = .ok (.invokestatic 45, 3) := by decide +kernel
theorem dX5_bringBack_15 : decode cX5_bringBack 15 = .ok (.return_, 1) := by decide +kernel
theorem dX5_light_0 : decode cX5_light 0 = .ok (.aload_n 0, 1) := by decide +kernel
theorem dX5_light_1 : decode cX5_light 1 = .ok (.getfield 26, 3) := by decide +kernel
theorem dX5_light_4 : decode cX5_light 4 = .ok (.iconst 0, 1) := by decide +kernel
theorem dX5_light_5 : decode cX5_light 5 = .ok (.iaload, 1) := by decide +kernel
theorem dX5_light_6 : decode cX5_light 6 = .ok (.bipush 8, 2) := by decide +kernel
theorem dX5_light_8 : decode cX5_light 8 = .ok (.irem, 1) := by decide +kernel
theorem dX5_light_9 : decode cX5_light 9 = .ok (.istore_n 1, 1) := by decide +kernel
theorem dX5_light_10 : decode cX5_light 10 = .ok (.iload_n 1, 1) := by decide +kernel
theorem dX5_light_11 : decode cX5_light 11 = .ok (.bipush 8, 2) := by decide +kernel
theorem dX5_light_13 : decode cX5_light 13 = .ok (.iload_n 1, 1) := by decide +kernel
theorem dX5_light_14 : decode cX5_light 14 = .ok (.isub, 1) := by decide +kernel
theorem dX5_light_15 : decode cX5_light 15 = .ok (.invokestatic 51, 3) := by decide +kernel
theorem dX5_light_18 : decode cX5_light 18 = .ok (.ireturn, 1) := by decide +kernel
set_option maxRecDepth 20000 in
theorem ggX5_stands_X5_ru : GoodIn wsX5_stands wsX5_ru := goodIn_r _ [5, 6, 7, 8, 9, 10, 11, 12, 13, 14, 15, 16] (by decide +kernel) (by decide +kernel)
set_option maxRecDepth 20000 in
theorem gX5_stands_X5_ru : GoodIn wsX5_stands (wsV RX5 57 RX5 yX5_ru wsX5_ru) := goodIn_app (goodIn_of _ (by decide +kernel)) ggX5_stands_X5_ru
theorem dX5_stands_0 : decode cX5_stands 0 = .ok (.aload_n 0, 1) := by decide +kernel
theorem dX5_stands_1 : decode cX5_stands 1 = .ok (.iload_n 1, 1) := by decide +kernel
theorem dX5_stands_2 : decode cX5_stands 2 = .ok (.iconst 0, 1) := by decide +kernel
theorem dX5_stands_3 : decode cX5_stands 3 = .ok (.invokevirtual 57, 3) := by decide +kernel
theorem dX5_stands_6 : decode cX5_stands 6 = .ok (.ifCond .le 7, 3) := by decide +kernel
theorem dX5_stands_9 : decode cX5_stands 9 = .ok (.iconst 1, 1) := by decide +kernel
theorem dX5_stands_10 : decode cX5_stands 10 = .ok (.goto 4, 3) := by decide +kernel
theorem dX5_stands_13 : decode cX5_stands 13 = .ok (.iconst 0, 1) := by decide +kernel
theorem dX5_stands_14 : decode cX5_stands 14 = .ok (.ireturn, 1) := by decide +kernel
set_option maxRecDepth 20000 in
theorem ggX5_grade_X5_ru : GoodIn wsX5_grade wsX5_ru := goodIn_r _ [5, 6, 7, 8, 9, 10, 11, 12, 13, 14, 15, 16] (by decide +kernel) (by decide +kernel)
set_option maxRecDepth 20000 in
theorem gX5_grade_X5_ru : GoodIn wsX5_grade (wsV RX5 57 RX5 yX5_ru wsX5_ru) := goodIn_app (goodIn_of _ (by decide +kernel)) ggX5_grade_X5_ru
theorem dX5_grade_0 : decode cX5_grade 0 = .ok (.aload_n 0, 1) := by decide +kernel
theorem dX5_grade_1 : decode cX5_grade 1 = .ok (.iload_n 1, 1) := by decide +kernel
theorem dX5_grade_2 : decode cX5_grade 2 = .ok (.iconst 1, 1) := by decide +kernel
theorem dX5_grade_3 : decode cX5_grade 3 = .ok (.invokevirtual 57, 3) := by decide +kernel
theorem dX5_grade_6 : decode cX5_grade 6 = .ok (.istore_n 2, 1) := by decide +kernel
theorem dX5_grade_7 : decode cX5_grade 7 = .ok (.iload_n 2, 1) := by decide +kernel
theorem dX5_grade_8 : decode cX5_grade 8 = .ok (.ifCond .ne 7, 3) := by decide +kernel
theorem dX5_grade_11 : decode cX5_grade 11 = .ok (.iconst 0, 1) := by decide +kernel
theorem dX5_grade_12 : decode cX5_grade 12 = .ok (.goto 29, 3) := by decide +kernel
theorem dX5_grade_15 : decode cX5_grade 15 = .ok (.iload_n 2, 1) := by decide +kernel
theorem dX5_grade_16 : decode cX5_grade 16 = .ok (.iconst 4, 1) := by decide +kernel
theorem dX5_grade_17 : decode cX5_grade 17 = .ok (.if_icmp .lt 9, 3) := by decide +kernel
theorem dX5_grade_20 : decode cX5_grade 20 = .ok (.iload_n 2, 1) := by decide +kernel
theorem dX5_grade_21 : decode cX5_grade 21 = .ok (.bipush 9, 2) := by decide +kernel
theorem dX5_grade_23 : decode cX5_grade 23 = .ok (.if_icmp .le 7, 3) := by decide +kernel
theorem dX5_grade_26 : decode cX5_grade 26 = .ok (.iconst 1, 1) := by decide +kernel
theorem dX5_grade_27 : decode cX5_grade 27 = .ok (.goto 14, 3) := by decide +kernel
theorem dX5_grade_30 : decode cX5_grade 30 = .ok (.iload_n 2, 1) := by decide +kernel
theorem dX5_grade_31 : decode cX5_grade 31 = .ok (.bipush 7, 2) := by decide +kernel
theorem dX5_grade_33 : decode cX5_grade 33 = .ok (.if_icmp .ge 7, 3) := by decide +kernel
theorem dX5_grade_36 : decode cX5_grade 36 = .ok (.iconst 2, 1) := by decide +kernel
theorem dX5_grade_37 : decode cX5_grade 37 = .ok (.goto 4, 3) := by decide +kernel
theorem dX5_grade_40 : decode cX5_grade 40 = .ok (.iconst 3, 1) := by decide +kernel
theorem dX5_grade_41 : decode cX5_grade 41 = .ok (.ireturn, 1) := by decide +kernel
set_option maxRecDepth 20000 in
theorem ggX5_view_X5_stands : GoodIn wsX5_view wsX5_stands := goodIn_r _ [5, 6, 7, 8, 4, 9, 10, 23, 24, 25, 26, 27, 28, 29, 30, 31, 32] (by decide +kernel) (by decide +kernel)
set_option maxRecDepth 20000 in
theorem gX5_view_X5_stands : GoodIn wsX5_view (wsV RX5 60 RX5 yX5_stands wsX5_stands) := goodIn_app (goodIn_of _ (by decide +kernel)) ggX5_view_X5_stands
set_option maxRecDepth 20000 in
theorem ggX5_view_X5_ru : GoodIn wsX5_view wsX5_ru := goodIn_r _ [9, 10, 23, 24, 25, 26, 27, 28, 29, 30, 31, 32] (by decide +kernel) (by decide +kernel)
set_option maxRecDepth 20000 in
theorem gX5_view_X5_ru : GoodIn wsX5_view (wsV RX5 57 RX5 yX5_ru wsX5_ru) := goodIn_app (goodIn_of _ (by decide +kernel)) ggX5_view_X5_ru
set_option maxRecDepth 20000 in
theorem ggX5_view_X5_grade : GoodIn wsX5_view wsX5_grade := goodIn_r _ [14, 6, 7, 8, 4, 9, 10, 23, 24, 25, 26, 27, 28, 29, 30, 31, 32] (by decide +kernel) (by decide +kernel)
set_option maxRecDepth 20000 in
theorem gX5_view_X5_grade : GoodIn wsX5_view (wsV RX5 64 RX5 yX5_grade wsX5_grade) := goodIn_app (goodIn_of _ (by decide +kernel)) ggX5_view_X5_grade
set_option maxRecDepth 20000 in
theorem ggX5_view_X5_light : GoodIn wsX5_view wsX5_light := goodIn_r _ [18, 10, 19, 20, 21, 22, 23, 24, 25, 26, 27, 28, 29, 30, 31, 32] (by decide +kernel) (by decide +kernel)
set_option maxRecDepth 20000 in
theorem gX5_view_X5_light : GoodIn wsX5_view (wsV RX5 68 RX5 yX5_light wsX5_light) := goodIn_app (goodIn_of _ (by decide +kernel)) ggX5_view_X5_light
theorem dX5_view_0 : decode cX5_view 0 = .ok (.aload_n 0, 1) := by decide +kernel
theorem dX5_view_1 : decode cX5_view 1 = .ok (.iload_n 1, 1) := by decide +kernel
theorem dX5_view_2 : decode cX5_view 2 = .ok (.invokevirtual 60, 3) := by decide +kernel
theorem dX5_view_5 : decode cX5_view 5 = .ok (.ifCond .eq 34, 3) := by decide +kernel
theorem dX5_view_8 : decode cX5_view 8 = .ok (.iconst 2, 1) := by decide +kernel
theorem dX5_view_9 : decode cX5_view 9 = .ok (.aload_n 0, 1) := by decide +kernel
theorem dX5_view_10 : decode cX5_view 10 = .ok (.iload_n 1, 1) := by decide +kernel
theorem dX5_view_11 : decode cX5_view 11 = .ok (.iconst 0, 1) := by decide +kernel
theorem dX5_view_12 : decode cX5_view 12 = .ok (.invokevirtual 57, 3) := by decide +kernel
theorem dX5_view_15 : decode cX5_view 15 = .ok (.imul, 1) := by decide +kernel
theorem dX5_view_16 : decode cX5_view 16 = .ok (.iconst 3, 1) := by decide +kernel
theorem dX5_view_17 : decode cX5_view 17 = .ok (.aload_n 0, 1) := by decide +kernel
theorem dX5_view_18 : decode cX5_view 18 = .ok (.iload_n 1, 1) := by decide +kernel
theorem dX5_view_19 : decode cX5_view 19 = .ok (.invokevirtual 64, 3) := by decide +kernel
theorem dX5_view_22 : decode cX5_view 22 = .ok (.imul, 1) := by decide +kernel
theorem dX5_view_23 : decode cX5_view 23 = .ok (.iadd, 1) := by decide +kernel
theorem dX5_view_24 : decode cX5_view 24 = .ok (.aload_n 0, 1) := by decide +kernel
theorem dX5_view_25 : decode cX5_view 25 = .ok (.iload_n 1, 1) := by decide +kernel
theorem dX5_view_26 : decode cX5_view 26 = .ok (.iconst 2, 1) := by decide +kernel
theorem dX5_view_27 : decode cX5_view 27 = .ok (.invokevirtual 57, 3) := by decide +kernel
theorem dX5_view_30 : decode cX5_view 30 = .ok (.aload_n 0, 1) := by decide +kernel
theorem dX5_view_31 : decode cX5_view 31 = .ok (.invokevirtual 68, 3) := by decide +kernel
theorem dX5_view_34 : decode cX5_view 34 = .ok (.imul, 1) := by decide +kernel
theorem dX5_view_35 : decode cX5_view 35 = .ok (.iadd, 1) := by decide +kernel
theorem dX5_view_36 : decode cX5_view 36 = .ok (.goto 4, 3) := by decide +kernel
theorem dX5_view_39 : decode cX5_view 39 = .ok (.iconst 0, 1) := by decide +kernel
theorem dX5_view_40 : decode cX5_view 40 = .ok (.ireturn, 1) := by decide +kernel
set_option maxRecDepth 20000 in
theorem ggX5_isAhead_X5_view : GoodIn wsX5_isAhead wsX5_view := goodIn_r _ [6, 7, 8, 9, 5, 10, 11, 12, 13, 14, 15, 16, 17, 18, 19, 20, 21, 22, 23, 24, 25, 26, 27, 28, 29, 30, 31, 32, 33, 34, 35, 36, 37] (by decide +kernel) (by decide +kernel)
set_option maxRecDepth 20000 in
theorem gX5_isAhead_X5_view : GoodIn wsX5_isAhead (wsV RX5 72 RX5 yX5_view wsX5_view) := goodIn_app (goodIn_of _ (by decide +kernel)) ggX5_isAhead_X5_view
theorem dX5_isAhead_0 : decode cX5_isAhead 0 = .ok (.aload_n 0, 1) := by decide +kernel
theorem dX5_isAhead_1 : decode cX5_isAhead 1 = .ok (.iload_n 1, 1) := by decide +kernel
theorem dX5_isAhead_2 : decode cX5_isAhead 2 = .ok (.invokevirtual 72, 3) := by decide +kernel
theorem dX5_isAhead_5 : decode cX5_isAhead 5 = .ok (.istore_n 3, 1) := by decide +kernel
theorem dX5_isAhead_6 : decode cX5_isAhead 6 = .ok (.aload_n 0, 1) := by decide +kernel
theorem dX5_isAhead_7 : decode cX5_isAhead 7 = .ok (.iload_n 2, 1) := by decide +kernel
theorem dX5_isAhead_8 : decode cX5_isAhead 8 = .ok (.invokevirtual 72, 3) := by decide +kernel
theorem dX5_isAhead_11 : decode cX5_isAhead 11 = .ok (.istore 4, 2) := by decide +kernel
theorem dX5_isAhead_13 : decode cX5_isAhead 13 = .ok (.iload_n 3, 1) := by decide +kernel
theorem dX5_isAhead_14 : decode cX5_isAhead 14 = .ok (.iload 4, 2) := by decide +kernel
theorem dX5_isAhead_16 : decode cX5_isAhead 16 = .ok (.if_icmp .eq 15, 3) := by decide +kernel
theorem dX5_isAhead_19 : decode cX5_isAhead 19 = .ok (.iload_n 3, 1) := by decide +kernel
theorem dX5_isAhead_20 : decode cX5_isAhead 20 = .ok (.iload 4, 2) := by decide +kernel
theorem dX5_isAhead_22 : decode cX5_isAhead 22 = .ok (.if_icmp .le 7, 3) := by decide +kernel
theorem dX5_isAhead_25 : decode cX5_isAhead 25 = .ok (.iconst 1, 1) := by decide +kernel
theorem dX5_isAhead_26 : decode cX5_isAhead 26 = .ok (.goto 4, 3) := by decide +kernel
theorem dX5_isAhead_29 : decode cX5_isAhead 29 = .ok (.iconst 0, 1) := by decide +kernel
theorem dX5_isAhead_30 : decode cX5_isAhead 30 = .ok (.ireturn, 1) := by decide +kernel
theorem dX5_isAhead_31 : decode cX5_isAhead 31 = .ok (.aload_n 0, 1) := by decide +kernel
theorem dX5_isAhead_32 : decode cX5_isAhead 32 = .ok (.getfield 13, 3) := by decide +kernel
theorem dX5_isAhead_35 : decode cX5_isAhead 35 = .ok (.iload_n 1, 1) := by decide +kernel
theorem dX5_isAhead_36 : decode cX5_isAhead 36 = .ok (.iaload, 1) := by decide +kernel
theorem dX5_isAhead_37 : decode cX5_isAhead 37 = .ok (.aload_n 0, 1) := by decide +kernel
theorem dX5_isAhead_38 : decode cX5_isAhead 38 = .ok (.getfield 13, 3) := by decide +kernel
theorem dX5_isAhead_41 : decode cX5_isAhead 41 = .ok (.iload_n 2, 1) := by decide +kernel
theorem dX5_isAhead_42 : decode cX5_isAhead 42 = .ok (.iaload, 1) := by decide +kernel
theorem dX5_isAhead_43 : decode cX5_isAhead 43 = .ok (.if_icmp .eq 26, 3) := by decide +kernel
theorem dX5_isAhead_46 : decode cX5_isAhead 46 = .ok (.aload_n 0, 1) := by decide +kernel
theorem dX5_isAhead_47 : decode cX5_isAhead 47 = .ok (.getfield 13, 3) := by decide +kernel
theorem dX5_isAhead_50 : decode cX5_isAhead 50 = .ok (.iload_n 1, 1) := by decide +kernel
theorem dX5_isAhead_51 : decode cX5_isAhead 51 = .ok (.iaload, 1) := by decide +kernel
theorem dX5_isAhead_52 : decode cX5_isAhead 52 = .ok (.aload_n 0, 1) := by decide +kernel
theorem dX5_isAhead_53 : decode cX5_isAhead 53 = .ok (.getfield 13, 3) := by decide +kernel
theorem dX5_isAhead_56 : decode cX5_isAhead 56 = .ok (.iload_n 2, 1) := by decide +kernel
theorem dX5_isAhead_57 : decode cX5_isAhead 57 = .ok (.iaload, 1) := by decide +kernel
theorem dX5_isAhead_58 : decode cX5_isAhead 58 = .ok (.if_icmp .ge 7, 3) := by decide +kernel
theorem dX5_isAhead_61 : decode cX5_isAhead 61 = .ok (.iconst 1, 1) := by decide +kernel
theorem dX5_isAhead_62 : decode cX5_isAhead 62 = .ok (.goto 17, 3) := by decide +kernel
theorem dX5_isAhead_65 : decode cX5_isAhead 65 = .ok (.iconst 0, 1) := by decide +kernel
theorem dX5_isAhead_66 : decode cX5_isAhead 66 = .ok (.goto 13, 3) := by decide +kernel
theorem dX5_isAhead_69 : decode cX5_isAhead 69 = .ok (.iload_n 1, 1) := by decide +kernel
theorem dX5_isAhead_70 : decode cX5_isAhead 70 = .ok (.iload_n 2, 1) := by decide +kernel
theorem dX5_isAhead_71 : decode cX5_isAhead 71 = .ok (.if_icmp .ge 7, 3) := by decide +kernel
theorem dX5_isAhead_74 : decode cX5_isAhead 74 = .ok (.iconst 1, 1) := by decide +kernel
theorem dX5_isAhead_75 : decode cX5_isAhead 75 = .ok (.goto 4, 3) := by decide +kernel
theorem dX5_isAhead_78 : decode cX5_isAhead 78 = .ok (.iconst 0, 1) := by decide +kernel
theorem dX5_isAhead_79 : decode cX5_isAhead 79 = .ok (.ireturn, 1) := by decide +kernel
set_option maxRecDepth 20000 in
theorem ggX5_rank_X5_stands : GoodIn wsX5_rank wsX5_stands := goodIn_r _ [6, 7, 8, 9, 5, 10, 11, 33, 34, 35, 36, 37, 38, 39, 40, 41, 42] (by decide +kernel) (by decide +kernel)
set_option maxRecDepth 20000 in
theorem gX5_rank_X5_stands : GoodIn wsX5_rank (wsV RX5 60 RX5 yX5_stands wsX5_stands) := goodIn_app (goodIn_of _ (by decide +kernel)) ggX5_rank_X5_stands
set_option maxRecDepth 20000 in
theorem ggX5_rank_X5_isAhead : GoodIn wsX5_rank wsX5_isAhead := goodIn_r _ [15, 16, 17, 18, 19, 5, 20, 2, 3, 4, 6, 7, 8, 9, 10, 11, 21, 22, 23, 24, 25, 26, 27, 28, 29, 30, 31, 32, 33, 34, 35, 36, 37, 38, 39, 40, 41, 42] (by decide +kernel) (by decide +kernel)
set_option maxRecDepth 20000 in
theorem gX5_rank_X5_isAhead : GoodIn wsX5_rank (wsV RX5 75 RX5 yX5_isAhead wsX5_isAhead) := goodIn_app (goodIn_of _ (by decide +kernel)) ggX5_rank_X5_isAhead
theorem dX5_rank_0 : decode cX5_rank 0 = .ok (.aload_n 0, 1) := by decide +kernel
theorem dX5_rank_1 : decode cX5_rank 1 = .ok (.iload_n 1, 1) := by decide +kernel
theorem dX5_rank_2 : decode cX5_rank 2 = .ok (.invokevirtual 60, 3) := by decide +kernel
theorem dX5_rank_5 : decode cX5_rank 5 = .ok (.ifCond .ne 5, 3) := by decide +kernel
theorem dX5_rank_8 : decode cX5_rank 8 = .ok (.iconst (-1), 1) := by decide +kernel
theorem dX5_rank_9 : decode cX5_rank 9 = .ok (.ireturn, 1) := by decide +kernel
theorem dX5_rank_10 : decode cX5_rank 10 = .ok (.iconst 0, 1) := by decide +kernel
theorem dX5_rank_11 : decode cX5_rank 11 = .ok (.istore_n 2, 1) := by decide +kernel
theorem dX5_rank_12 : decode cX5_rank 12 = .ok (.iconst 0, 1) := by decide +kernel
theorem dX5_rank_13 : decode cX5_rank 13 = .ok (.istore_n 3, 1) := by decide +kernel
theorem dX5_rank_14 : decode cX5_rank 14 = .ok (.iload_n 3, 1) := by decide +kernel
theorem dX5_rank_15 : decode cX5_rank 15 = .ok (.aload_n 0, 1) := by decide +kernel
theorem dX5_rank_16 : decode cX5_rank 16 = .ok (.getfield 35, 3) := by decide +kernel
theorem dX5_rank_19 : decode cX5_rank 19 = .ok (.if_icmp .ge 39, 3) := by decide +kernel
theorem dX5_rank_22 : decode cX5_rank 22 = .ok (.iload_n 2, 1) := by decide +kernel
theorem dX5_rank_23 : decode cX5_rank 23 = .ok (.iload_n 3, 1) := by decide +kernel
theorem dX5_rank_24 : decode cX5_rank 24 = .ok (.iload_n 1, 1) := by decide +kernel
theorem dX5_rank_25 : decode cX5_rank 25 = .ok (.if_icmp .eq 24, 3) := by decide +kernel
theorem dX5_rank_28 : decode cX5_rank 28 = .ok (.aload_n 0, 1) := by decide +kernel
theorem dX5_rank_29 : decode cX5_rank 29 = .ok (.iload_n 3, 1) := by decide +kernel
theorem dX5_rank_30 : decode cX5_rank 30 = .ok (.invokevirtual 60, 3) := by decide +kernel
theorem dX5_rank_33 : decode cX5_rank 33 = .ok (.ifCond .eq 16, 3) := by decide +kernel
theorem dX5_rank_36 : decode cX5_rank 36 = .ok (.aload_n 0, 1) := by decide +kernel
theorem dX5_rank_37 : decode cX5_rank 37 = .ok (.iload_n 3, 1) := by decide +kernel
theorem dX5_rank_38 : decode cX5_rank 38 = .ok (.iload_n 1, 1) := by decide +kernel
theorem dX5_rank_39 : decode cX5_rank 39 = .ok (.invokevirtual 75, 3) := by decide +kernel
theorem dX5_rank_42 : decode cX5_rank 42 = .ok (.ifCond .eq 7, 3) := by decide +kernel
theorem dX5_rank_45 : decode cX5_rank 45 = .ok (.iconst 1, 1) := by decide +kernel
theorem dX5_rank_46 : decode cX5_rank 46 = .ok (.goto 4, 3) := by decide +kernel
theorem dX5_rank_49 : decode cX5_rank 49 = .ok (.iconst 0, 1) := by decide +kernel
theorem dX5_rank_50 : decode cX5_rank 50 = .ok (.iadd, 1) := by decide +kernel
theorem dX5_rank_51 : decode cX5_rank 51 = .ok (.istore_n 2, 1) := by decide +kernel
theorem dX5_rank_52 : decode cX5_rank 52 = .ok (.iinc 3 1, 3) := by decide +kernel
theorem dX5_rank_55 : decode cX5_rank 55 = .ok (.goto (-41), 3) := by decide +kernel
theorem dX5_rank_58 : decode cX5_rank 58 = .ok (.iload_n 2, 1) := by decide +kernel
theorem dX5_rank_59 : decode cX5_rank 59 = .ok (.ireturn, 1) := by decide +kernel
theorem dX5_come_0 : decode cX5_come 0 = .ok (.iload_n 1, 1) := by decide +kernel
theorem dX5_come_1 : decode cX5_come 1 = .ok (.iconst (-1), 1) := by decide +kernel
theorem dX5_come_2 : decode cX5_come 2 = .ok (.if_icmp .ne 5, 3) := by decide +kernel
theorem dX5_come_5 : decode cX5_come 5 = .ok (.iconst 0, 1) := by decide +kernel
theorem dX5_come_6 : decode cX5_come 6 = .ok (.ireturn, 1) := by decide +kernel
theorem dX5_come_7 : decode cX5_come 7 = .ok (.aload_n 0, 1) := by decide +kernel
theorem dX5_come_8 : decode cX5_come 8 = .ok (.getfield 7, 3) := by decide +kernel
theorem dX5_come_11 : decode cX5_come 11 = .ok (.istore_n 2, 1) := by decide +kernel
theorem dX5_come_12 : decode cX5_come 12 = .ok (.iconst 0, 1) := by decide +kernel
theorem dX5_come_13 : decode cX5_come 13 = .ok (.istore_n 3, 1) := by decide +kernel
theorem dX5_come_14 : decode cX5_come 14 = .ok (.iload_n 3, 1) := by decide +kernel
theorem dX5_come_15 : decode cX5_come 15 = .ok (.iload_n 1, 1) := by decide +kernel
theorem dX5_come_16 : decode cX5_come 16 = .ok (.if_icmp .ge 13, 3) := by decide +kernel
theorem dX5_come_19 : decode cX5_come 19 = .ok (.iload_n 2, 1) := by decide +kernel
theorem dX5_come_20 : decode cX5_come 20 = .ok (.iconst 2, 1) := by decide +kernel
theorem dX5_come_21 : decode cX5_come 21 = .ok (.idiv, 1) := by decide +kernel
theorem dX5_come_22 : decode cX5_come 22 = .ok (.istore_n 2, 1) := by decide +kernel
theorem dX5_come_23 : decode cX5_come 23 = .ok (.iinc 3 1, 3) := by decide +kernel
theorem dX5_come_26 : decode cX5_come 26 = .ok (.goto (-12), 3) := by decide +kernel
theorem dX5_come_29 : decode cX5_come 29 = .ok (.iload_n 2, 1) := by decide +kernel
theorem dX5_come_30 : decode cX5_come 30 = .ok (.iload_n 2, 1) := by decide +kernel
theorem dX5_come_31 : decode cX5_come 31 = .ok (.iconst 2, 1) := by decide +kernel
theorem dX5_come_32 : decode cX5_come 32 = .ok (.idiv, 1) := by decide +kernel
theorem dX5_come_33 : decode cX5_come 33 = .ok (.isub, 1) := by decide +kernel
theorem dX5_come_34 : decode cX5_come 34 = .ok (.ireturn, 1) := by decide +kernel
set_option maxRecDepth 20000 in
theorem ggX5_sell_X5_rank : GoodIn wsX5_sell wsX5_rank := goodIn_r _ [8, 1, 9, 10, 11, 7, 12, 13, 14, 15, 16, 2, 17, 18, 19, 20, 3, 21, 22, 23, 24, 25, 26, 27, 28, 29, 30, 31, 32, 33, 34, 35, 36, 42, 43, 44, 45, 46, 47, 48, 49, 50, 51] (by decide +kernel) (by decide +kernel)
set_option maxRecDepth 20000 in
theorem gX5_sell_X5_rank : GoodIn wsX5_sell (wsV RX5 79 RX5 yX5_rank wsX5_rank) := goodIn_app (goodIn_of _ (by decide +kernel)) ggX5_sell_X5_rank
set_option maxRecDepth 20000 in
theorem ggX5_sell_X5_come : GoodIn wsX5_sell wsX5_come := goodIn_r _ [40, 41, 42, 43, 44, 45, 46, 47, 48, 49, 50, 51] (by decide +kernel) (by decide +kernel)
set_option maxRecDepth 20000 in
theorem gX5_sell_X5_come : GoodIn wsX5_sell (wsV RX5 82 RX5 yX5_come wsX5_come) := goodIn_app (goodIn_of _ (by decide +kernel)) ggX5_sell_X5_come
theorem dX5_sell_0 : decode cX5_sell 0 = .ok (.iconst 0, 1) := by decide +kernel
theorem dX5_sell_1 : decode cX5_sell 1 = .ok (.istore_n 1, 1) := by decide +kernel
theorem dX5_sell_2 : decode cX5_sell 2 = .ok (.iload_n 1, 1) := by decide +kernel
theorem dX5_sell_3 : decode cX5_sell 3 = .ok (.aload_n 0, 1) := by decide +kernel
theorem dX5_sell_4 : decode cX5_sell 4 = .ok (.getfield 35, 3) := by decide +kernel
theorem dX5_sell_7 : decode cX5_sell 7 = .ok (.if_icmp .ge 34, 3) := by decide +kernel
theorem dX5_sell_10 : decode cX5_sell 10 = .ok (.aload_n 0, 1) := by decide +kernel
theorem dX5_sell_11 : decode cX5_sell 11 = .ok (.getfield 26, 3) := by decide +kernel
theorem dX5_sell_14 : decode cX5_sell 14 = .ok (.iconst 1, 1) := by decide +kernel
theorem dX5_sell_15 : decode cX5_sell 15 = .ok (.dup2, 1) := by decide +kernel
theorem dX5_sell_16 : decode cX5_sell 16 = .ok (.iaload, 1) := by decide +kernel
theorem dX5_sell_17 : decode cX5_sell 17 = .ok (.aload_n 0, 1) := by decide +kernel
theorem dX5_sell_18 : decode cX5_sell 18 = .ok (.aload_n 0, 1) := by decide +kernel
theorem dX5_sell_19 : decode cX5_sell 19 = .ok (.iload_n 1, 1) := by decide +kernel
theorem dX5_sell_20 : decode cX5_sell 20 = .ok (.invokevirtual 79, 3) := by decide +kernel
theorem dX5_sell_23 : decode cX5_sell 23 = .ok (.invokevirtual 82, 3) := by decide +kernel
theorem dX5_sell_26 : decode cX5_sell 26 = .ok (.aload_n 0, 1) := by decide +kernel
theorem dX5_sell_27 : decode cX5_sell 27 = .ok (.getfield 13, 3) := by decide +kernel
theorem dX5_sell_30 : decode cX5_sell 30 = .ok (.iload_n 1, 1) := by decide +kernel
theorem dX5_sell_31 : decode cX5_sell 31 = .ok (.iaload, 1) := by decide +kernel
theorem dX5_sell_32 : decode cX5_sell 32 = .ok (.imul, 1) := by decide +kernel
theorem dX5_sell_33 : decode cX5_sell 33 = .ok (.iadd, 1) := by decide +kernel
theorem dX5_sell_34 : decode cX5_sell 34 = .ok (.iastore, 1) := by decide +kernel
theorem dX5_sell_35 : decode cX5_sell 35 = .ok (.iinc 1 1, 3) := by decide +kernel
theorem dX5_sell_38 : decode cX5_sell 38 = .ok (.goto (-36), 3) := by decide +kernel
theorem dX5_sell_41 : decode cX5_sell 41 = .ok (.return_, 1) := by decide +kernel
set_option maxRecDepth 20000 in
theorem ggX5_redeem_X5_stands : GoodIn wsX5_redeem wsX5_stands := goodIn_r _ [10, 11, 12, 13, 9, 14, 3, 15, 16, 17, 18, 19, 20, 21, 22, 23, 24] (by decide +kernel) (by decide +kernel)
set_option maxRecDepth 20000 in
theorem gX5_redeem_X5_stands : GoodIn wsX5_redeem (wsV RX5 60 RX5 yX5_stands wsX5_stands) := goodIn_app (goodIn_of _ (by decide +kernel)) ggX5_redeem_X5_stands
theorem dX5_redeem_0 : decode cX5_redeem 0 = .ok (.iconst 0, 1) := by decide +kernel
theorem dX5_redeem_1 : decode cX5_redeem 1 = .ok (.istore_n 1, 1) := by decide +kernel
theorem dX5_redeem_2 : decode cX5_redeem 2 = .ok (.iload_n 1, 1) := by decide +kernel
theorem dX5_redeem_3 : decode cX5_redeem 3 = .ok (.aload_n 0, 1) := by decide +kernel
theorem dX5_redeem_4 : decode cX5_redeem 4 = .ok (.getfield 42, 3) := by decide +kernel
theorem dX5_redeem_7 : decode cX5_redeem 7 = .ok (.if_icmp .ge 87, 3) := by decide +kernel
theorem dX5_redeem_10 : decode cX5_redeem 10 = .ok (.aload_n 0, 1) := by decide +kernel
theorem dX5_redeem_11 : decode cX5_redeem 11 = .ok (.getfield 20, 3) := by decide +kernel
theorem dX5_redeem_14 : decode cX5_redeem 14 = .ok (.iload_n 1, 1) := by decide +kernel
theorem dX5_redeem_15 : decode cX5_redeem 15 = .ok (.iaload, 1) := by decide +kernel
theorem dX5_redeem_16 : decode cX5_redeem 16 = .ok (.aload_n 0, 1) := by decide +kernel
theorem dX5_redeem_17 : decode cX5_redeem 17 = .ok (.getfield 26, 3) := by decide +kernel
theorem dX5_redeem_20 : decode cX5_redeem 20 = .ok (.iconst 0, 1) := by decide +kernel
theorem dX5_redeem_21 : decode cX5_redeem 21 = .ok (.iaload, 1) := by decide +kernel
theorem dX5_redeem_22 : decode cX5_redeem 22 = .ok (.if_icmp .ne 66, 3) := by decide +kernel
theorem dX5_redeem_25 : decode cX5_redeem 25 = .ok (.aload_n 0, 1) := by decide +kernel
theorem dX5_redeem_26 : decode cX5_redeem 26 = .ok (.getfield 26, 3) := by decide +kernel
theorem dX5_redeem_29 : decode cX5_redeem 29 = .ok (.bipush 32, 2) := by decide +kernel
theorem dX5_redeem_31 : decode cX5_redeem 31 = .ok (.iload_n 1, 1) := by decide +kernel
theorem dX5_redeem_32 : decode cX5_redeem 32 = .ok (.iadd, 1) := by decide +kernel
theorem dX5_redeem_33 : decode cX5_redeem 33 = .ok (.iaload, 1) := by decide +kernel
theorem dX5_redeem_34 : decode cX5_redeem 34 = .ok (.ifCond .eq 6, 3) := by decide +kernel
theorem dX5_redeem_37 : decode cX5_redeem 37 = .ok (.goto 51, 3) := by decide +kernel
theorem dX5_redeem_40 : decode cX5_redeem 40 = .ok (.aload_n 0, 1) := by decide +kernel
theorem dX5_redeem_41 : decode cX5_redeem 41 = .ok (.aload_n 0, 1) := by decide +kernel
theorem dX5_redeem_42 : decode cX5_redeem 42 = .ok (.getfield 17, 3) := by decide +kernel
theorem dX5_redeem_45 : decode cX5_redeem 45 = .ok (.iload_n 1, 1) := by decide +kernel
theorem dX5_redeem_46 : decode cX5_redeem 46 = .ok (.iaload, 1) := by decide +kernel
theorem dX5_redeem_47 : decode cX5_redeem 47 = .ok (.invokevirtual 60, 3) := by decide +kernel
theorem dX5_redeem_50 : decode cX5_redeem 50 = .ok (.istore_n 2, 1) := by decide +kernel
theorem dX5_redeem_51 : decode cX5_redeem 51 = .ok (.aload_n 0, 1) := by decide +kernel
theorem dX5_redeem_52 : decode cX5_redeem 52 = .ok (.getfield 26, 3) := by decide +kernel
theorem dX5_redeem_55 : decode cX5_redeem 55 = .ok (.bipush 32, 2) := by decide +kernel
theorem dX5_redeem_57 : decode cX5_redeem 57 = .ok (.iload_n 1, 1) := by decide +kernel
theorem dX5_redeem_58 : decode cX5_redeem 58 = .ok (.iadd, 1) := by decide +kernel
theorem dX5_redeem_59 : decode cX5_redeem 59 = .ok (.iload_n 2, 1) := by decide +kernel
theorem dX5_redeem_60 : decode cX5_redeem 60 = .ok (.ifCond .eq 7, 3) := by decide +kernel
theorem dX5_redeem_63 : decode cX5_redeem 63 = .ok (.iconst 1, 1) := by decide +kernel
theorem dX5_redeem_64 : decode cX5_redeem 64 = .ok (.goto 4, 3) := by decide +kernel
theorem dX5_redeem_67 : decode cX5_redeem 67 = .ok (.iconst 2, 1) := by decide +kernel
theorem dX5_redeem_68 : decode cX5_redeem 68 = .ok (.iastore, 1) := by decide +kernel
theorem dX5_redeem_69 : decode cX5_redeem 69 = .ok (.iload_n 2, 1) := by decide +kernel
theorem dX5_redeem_70 : decode cX5_redeem 70 = .ok (.ifCond .ne 18, 3) := by decide +kernel
theorem dX5_redeem_73 : decode cX5_redeem 73 = .ok (.aload_n 0, 1) := by decide +kernel
theorem dX5_redeem_74 : decode cX5_redeem 74 = .ok (.getfield 26, 3) := by decide +kernel
theorem dX5_redeem_77 : decode cX5_redeem 77 = .ok (.iconst 1, 1) := by decide +kernel
theorem dX5_redeem_78 : decode cX5_redeem 78 = .ok (.dup2, 1) := by decide +kernel
theorem dX5_redeem_79 : decode cX5_redeem 79 = .ok (.iaload, 1) := by decide +kernel
theorem dX5_redeem_80 : decode cX5_redeem 80 = .ok (.aload_n 0, 1) := by decide +kernel
theorem dX5_redeem_81 : decode cX5_redeem 81 = .ok (.getfield 23, 3) := by decide +kernel
theorem dX5_redeem_84 : decode cX5_redeem 84 = .ok (.iload_n 1, 1) := by decide +kernel
theorem dX5_redeem_85 : decode cX5_redeem 85 = .ok (.iaload, 1) := by decide +kernel
theorem dX5_redeem_86 : decode cX5_redeem 86 = .ok (.isub, 1) := by decide +kernel
theorem dX5_redeem_87 : decode cX5_redeem 87 = .ok (.iastore, 1) := by decide +kernel
theorem dX5_redeem_88 : decode cX5_redeem 88 = .ok (.iinc 1 1, 3) := by decide +kernel
theorem dX5_redeem_91 : decode cX5_redeem 91 = .ok (.goto (-89), 3) := by decide +kernel
theorem dX5_redeem_94 : decode cX5_redeem 94 = .ok (.return_, 1) := by decide +kernel
set_option maxRecDepth 20000 in
theorem ggX5_grow_X5_stands : GoodIn wsX5_grow wsX5_stands := goodIn_r _ [10, 11, 12, 13, 9, 14, 1, 19, 20, 21, 22, 23, 24, 25, 26, 27, 28] (by decide +kernel) (by decide +kernel)
set_option maxRecDepth 20000 in
theorem gX5_grow_X5_stands : GoodIn wsX5_grow (wsV RX5 60 RX5 yX5_stands wsX5_stands) := goodIn_app (goodIn_of _ (by decide +kernel)) ggX5_grow_X5_stands
set_option maxRecDepth 20000 in
theorem ggX5_grow_X5_ru : GoodIn wsX5_grow wsX5_ru := goodIn_r _ [14, 1, 19, 20, 21, 22, 23, 24, 25, 26, 27, 28] (by decide +kernel) (by decide +kernel)
set_option maxRecDepth 20000 in
theorem gX5_grow_X5_ru : GoodIn wsX5_grow (wsV RX5 57 RX5 yX5_ru wsX5_ru) := goodIn_app (goodIn_of _ (by decide +kernel)) ggX5_grow_X5_ru
set_option maxRecDepth 20000 in
theorem ggX5_grow_X5_let : GoodIn wsX5_grow wsX5_let := goodIn_r _ [18, 1, 19, 20, 21, 22, 23, 24, 25, 26, 27, 28] (by decide +kernel) (by decide +kernel)
set_option maxRecDepth 20000 in
theorem gX5_grow_X5_let : GoodIn wsX5_grow (wsV RX5 85 RX5 yX5_let wsX5_let) := goodIn_app (goodIn_of _ (by decide +kernel)) ggX5_grow_X5_let
theorem dX5_grow_0 : decode cX5_grow 0 = .ok (.aload_n 0, 1) := by decide +kernel
theorem dX5_grow_1 : decode cX5_grow 1 = .ok (.iload_n 1, 1) := by decide +kernel
theorem dX5_grow_2 : decode cX5_grow 2 = .ok (.invokevirtual 60, 3) := by decide +kernel
theorem dX5_grow_5 : decode cX5_grow 5 = .ok (.ifCond .ne 4, 3) := by decide +kernel
theorem dX5_grow_8 : decode cX5_grow 8 = .ok (.return_, 1) := by decide +kernel
theorem dX5_grow_9 : decode cX5_grow 9 = .ok (.aload_n 0, 1) := by decide +kernel
theorem dX5_grow_10 : decode cX5_grow 10 = .ok (.getfield 26, 3) := by decide +kernel
theorem dX5_grow_13 : decode cX5_grow 13 = .ok (.iconst 0, 1) := by decide +kernel
theorem dX5_grow_14 : decode cX5_grow 14 = .ok (.iaload, 1) := by decide +kernel
theorem dX5_grow_15 : decode cX5_grow 15 = .ok (.iconst 3, 1) := by decide +kernel
theorem dX5_grow_16 : decode cX5_grow 16 = .ok (.irem, 1) := by decide +kernel
theorem dX5_grow_17 : decode cX5_grow 17 = .ok (.iconst 2, 1) := by decide +kernel
theorem dX5_grow_18 : decode cX5_grow 18 = .ok (.if_icmp .ne 22, 3) := by decide +kernel
theorem dX5_grow_21 : decode cX5_grow 21 = .ok (.aload_n 0, 1) := by decide +kernel
theorem dX5_grow_22 : decode cX5_grow 22 = .ok (.iload_n 1, 1) := by decide +kernel
theorem dX5_grow_23 : decode cX5_grow 23 = .ok (.iconst 1, 1) := by decide +kernel
theorem dX5_grow_24 : decode cX5_grow 24 = .ok (.bipush 12, 2) := by decide +kernel
theorem dX5_grow_26 : decode cX5_grow 26 = .ok (.aload_n 0, 1) := by decide +kernel
theorem dX5_grow_27 : decode cX5_grow 27 = .ok (.iload_n 1, 1) := by decide +kernel
theorem dX5_grow_28 : decode cX5_grow 28 = .ok (.iconst 1, 1) := by decide +kernel
theorem dX5_grow_29 : decode cX5_grow 29 = .ok (.invokevirtual 57, 3) := by decide +kernel
theorem dX5_grow_32 : decode cX5_grow 32 = .ok (.iconst 1, 1) := by decide +kernel
theorem dX5_grow_33 : decode cX5_grow 33 = .ok (.iadd, 1) := by decide +kernel
theorem dX5_grow_34 : decode cX5_grow 34 = .ok (.invokestatic 51, 3) := by decide +kernel
theorem dX5_grow_37 : decode cX5_grow 37 = .ok (.invokevirtual 85, 3) := by decide +kernel
theorem dX5_grow_40 : decode cX5_grow 40 = .ok (.aload_n 0, 1) := by decide +kernel
theorem dX5_grow_41 : decode cX5_grow 41 = .ok (.iload_n 1, 1) := by decide +kernel
theorem dX5_grow_42 : decode cX5_grow 42 = .ok (.iconst 1, 1) := by decide +kernel
theorem dX5_grow_43 : decode cX5_grow 43 = .ok (.invokevirtual 57, 3) := by decide +kernel
theorem dX5_grow_46 : decode cX5_grow 46 = .ok (.bipush 9, 2) := by decide +kernel
theorem dX5_grow_48 : decode cX5_grow 48 = .ok (.if_icmp .le 17, 3) := by decide +kernel
theorem dX5_grow_51 : decode cX5_grow 51 = .ok (.aload_n 0, 1) := by decide +kernel
theorem dX5_grow_52 : decode cX5_grow 52 = .ok (.iload_n 1, 1) := by decide +kernel
theorem dX5_grow_53 : decode cX5_grow 53 = .ok (.iconst 0, 1) := by decide +kernel
theorem dX5_grow_54 : decode cX5_grow 54 = .ok (.aload_n 0, 1) := by decide +kernel
theorem dX5_grow_55 : decode cX5_grow 55 = .ok (.iload_n 1, 1) := by decide +kernel
theorem dX5_grow_56 : decode cX5_grow 56 = .ok (.iconst 0, 1) := by decide +kernel
theorem dX5_grow_57 : decode cX5_grow 57 = .ok (.invokevirtual 57, 3) := by decide +kernel
theorem dX5_grow_60 : decode cX5_grow 60 = .ok (.iconst 1, 1) := by decide +kernel
theorem dX5_grow_61 : decode cX5_grow 61 = .ok (.isub, 1) := by decide +kernel
theorem dX5_grow_62 : decode cX5_grow 62 = .ok (.invokevirtual 85, 3) := by decide +kernel
theorem dX5_grow_65 : decode cX5_grow 65 = .ok (.return_, 1) := by decide +kernel
set_option maxRecDepth 20000 in
theorem ggX5_haunt_X5_ru : GoodIn wsX5_haunt wsX5_ru := goodIn_r _ [9, 10, 27, 28, 29, 30, 31, 32, 33, 34, 35, 36] (by decide +kernel) (by decide +kernel)
set_option maxRecDepth 20000 in
theorem gX5_haunt_X5_ru : GoodIn wsX5_haunt (wsV RX5 57 RX5 yX5_ru wsX5_ru) := goodIn_app (goodIn_of _ (by decide +kernel)) ggX5_haunt_X5_ru
set_option maxRecDepth 20000 in
theorem ggX5_haunt_X5_light : GoodIn wsX5_haunt wsX5_light := goodIn_r _ [14, 10, 1, 2, 3, 4, 27, 28, 29, 30, 31, 32, 33, 34, 35, 36] (by decide +kernel) (by decide +kernel)
set_option maxRecDepth 20000 in
theorem gX5_haunt_X5_light : GoodIn wsX5_haunt (wsV RX5 68 RX5 yX5_light wsX5_light) := goodIn_app (goodIn_of _ (by decide +kernel)) ggX5_haunt_X5_light
set_option maxRecDepth 20000 in
theorem ggX5_haunt_X5_stands : GoodIn wsX5_haunt wsX5_stands := goodIn_r _ [18, 5, 6, 7, 8, 9, 10, 27, 28, 29, 30, 31, 32, 33, 34, 35, 36] (by decide +kernel) (by decide +kernel)
set_option maxRecDepth 20000 in
theorem gX5_haunt_X5_stands : GoodIn wsX5_haunt (wsV RX5 60 RX5 yX5_stands wsX5_stands) := goodIn_app (goodIn_of _ (by decide +kernel)) ggX5_haunt_X5_stands
set_option maxRecDepth 20000 in
theorem ggX5_haunt_X5_grade : GoodIn wsX5_haunt wsX5_grade := goodIn_r _ [22, 5, 6, 7, 8, 9, 10, 27, 28, 29, 30, 31, 32, 33, 34, 35, 36] (by decide +kernel) (by decide +kernel)
set_option maxRecDepth 20000 in
theorem gX5_haunt_X5_grade : GoodIn wsX5_haunt (wsV RX5 64 RX5 yX5_grade wsX5_grade) := goodIn_app (goodIn_of _ (by decide +kernel)) ggX5_haunt_X5_grade
set_option maxRecDepth 20000 in
theorem ggX5_haunt_X5_let : GoodIn wsX5_haunt wsX5_let := goodIn_r _ [26, 10, 27, 28, 29, 30, 31, 32, 33, 34, 35, 36] (by decide +kernel) (by decide +kernel)
set_option maxRecDepth 20000 in
theorem gX5_haunt_X5_let : GoodIn wsX5_haunt (wsV RX5 85 RX5 yX5_let wsX5_let) := goodIn_app (goodIn_of _ (by decide +kernel)) ggX5_haunt_X5_let
theorem dX5_haunt_0 : decode cX5_haunt 0 = .ok (.aload_n 0, 1) := by decide +kernel
theorem dX5_haunt_1 : decode cX5_haunt 1 = .ok (.iload_n 1, 1) := by decide +kernel
theorem dX5_haunt_2 : decode cX5_haunt 2 = .ok (.iconst 2, 1) := by decide +kernel
theorem dX5_haunt_3 : decode cX5_haunt 3 = .ok (.invokevirtual 57, 3) := by decide +kernel
theorem dX5_haunt_6 : decode cX5_haunt 6 = .ok (.istore_n 2, 1) := by decide +kernel
theorem dX5_haunt_7 : decode cX5_haunt 7 = .ok (.aload_n 0, 1) := by decide +kernel
theorem dX5_haunt_8 : decode cX5_haunt 8 = .ok (.invokevirtual 68, 3) := by decide +kernel
theorem dX5_haunt_11 : decode cX5_haunt 11 = .ok (.iconst 4, 1) := by decide +kernel
theorem dX5_haunt_12 : decode cX5_haunt 12 = .ok (.if_icmp .ne 33, 3) := by decide +kernel
theorem dX5_haunt_15 : decode cX5_haunt 15 = .ok (.aload_n 0, 1) := by decide +kernel
theorem dX5_haunt_16 : decode cX5_haunt 16 = .ok (.iload_n 1, 1) := by decide +kernel
theorem dX5_haunt_17 : decode cX5_haunt 17 = .ok (.invokevirtual 60, 3) := by decide +kernel
theorem dX5_haunt_20 : decode cX5_haunt 20 = .ok (.ifCond .eq 25, 3) := by decide +kernel
theorem dX5_haunt_23 : decode cX5_haunt 23 = .ok (.aload_n 0, 1) := by decide +kernel
theorem dX5_haunt_24 : decode cX5_haunt 24 = .ok (.iload_n 1, 1) := by decide +kernel
theorem dX5_haunt_25 : decode cX5_haunt 25 = .ok (.invokevirtual 64, 3) := by decide +kernel
theorem dX5_haunt_28 : decode cX5_haunt 28 = .ok (.iconst 3, 1) := by decide +kernel
theorem dX5_haunt_29 : decode cX5_haunt 29 = .ok (.if_icmp .ne 16, 3) := by decide +kernel
theorem dX5_haunt_32 : decode cX5_haunt 32 = .ok (.aload_n 0, 1) := by decide +kernel
theorem dX5_haunt_33 : decode cX5_haunt 33 = .ok (.iload_n 1, 1) := by decide +kernel
theorem dX5_haunt_34 : decode cX5_haunt 34 = .ok (.iconst 2, 1) := by decide +kernel
theorem dX5_haunt_35 : decode cX5_haunt 35 = .ok (.iconst 5, 1) := by decide +kernel
theorem dX5_haunt_36 : decode cX5_haunt 36 = .ok (.iload_n 2, 1) := by decide +kernel
theorem dX5_haunt_37 : decode cX5_haunt 37 = .ok (.iconst 1, 1) := by decide +kernel
theorem dX5_haunt_38 : decode cX5_haunt 38 = .ok (.iadd, 1) := by decide +kernel
theorem dX5_haunt_39 : decode cX5_haunt 39 = .ok (.invokestatic 51, 3) := by decide +kernel
theorem dX5_haunt_42 : decode cX5_haunt 42 = .ok (.invokevirtual 85, 3) := by decide +kernel
theorem dX5_haunt_45 : decode cX5_haunt 45 = .ok (.aload_n 0, 1) := by decide +kernel
theorem dX5_haunt_46 : decode cX5_haunt 46 = .ok (.invokevirtual 68, 3) := by decide +kernel
theorem dX5_haunt_49 : decode cX5_haunt 49 = .ok (.ifCond .ne 32, 3) := by decide +kernel
theorem dX5_haunt_52 : decode cX5_haunt 52 = .ok (.iload_n 2, 1) := by decide +kernel
theorem dX5_haunt_53 : decode cX5_haunt 53 = .ok (.ifCond .le 28, 3) := by decide +kernel
theorem dX5_haunt_56 : decode cX5_haunt 56 = .ok (.aload_n 0, 1) := by decide +kernel
theorem dX5_haunt_57 : decode cX5_haunt 57 = .ok (.iload_n 1, 1) := by decide +kernel
theorem dX5_haunt_58 : decode cX5_haunt 58 = .ok (.invokevirtual 64, 3) := by decide +kernel
theorem dX5_haunt_61 : decode cX5_haunt 61 = .ok (.ifCond .eq 11, 3) := by decide +kernel
theorem dX5_haunt_64 : decode cX5_haunt 64 = .ok (.aload_n 0, 1) := by decide +kernel
theorem dX5_haunt_65 : decode cX5_haunt 65 = .ok (.iload_n 1, 1) := by decide +kernel
theorem dX5_haunt_66 : decode cX5_haunt 66 = .ok (.invokevirtual 60, 3) := by decide +kernel
theorem dX5_haunt_69 : decode cX5_haunt 69 = .ok (.ifCond .ne 12, 3) := by decide +kernel
theorem dX5_haunt_72 : decode cX5_haunt 72 = .ok (.aload_n 0, 1) := by decide +kernel
theorem dX5_haunt_73 : decode cX5_haunt 73 = .ok (.iload_n 1, 1) := by decide +kernel
theorem dX5_haunt_74 : decode cX5_haunt 74 = .ok (.iconst 2, 1) := by decide +kernel
theorem dX5_haunt_75 : decode cX5_haunt 75 = .ok (.iload_n 2, 1) := by decide +kernel
theorem dX5_haunt_76 : decode cX5_haunt 76 = .ok (.iconst 1, 1) := by decide +kernel
theorem dX5_haunt_77 : decode cX5_haunt 77 = .ok (.isub, 1) := by decide +kernel
theorem dX5_haunt_78 : decode cX5_haunt 78 = .ok (.invokevirtual 85, 3) := by decide +kernel
theorem dX5_haunt_81 : decode cX5_haunt 81 = .ok (.return_, 1) := by decide +kernel
set_option maxRecDepth 20000 in
theorem ggX5_dayOn_X5_sell : GoodIn wsX5_dayOn wsX5_sell := goodIn_r _ [7, 1, 2, 8, 9, 10, 11, 6, 12, 13, 14, 15, 16, 17, 18, 19, 20, 21, 22, 23, 24, 25, 26, 27, 28, 29, 30, 31, 32, 33, 34, 35, 36, 37, 38, 39, 40, 41, 42, 43, 44, 45, 66, 67, 68, 69, 70, 71, 72, 73, 74, 75] (by decide +kernel) (by decide +kernel)
set_option maxRecDepth 20000 in
theorem gX5_dayOn_X5_sell : GoodIn wsX5_dayOn (wsV RX5 89 RX5 yX5_sell wsX5_sell) := goodIn_app (goodIn_of _ (by decide +kernel)) ggX5_dayOn_X5_sell
set_option maxRecDepth 20000 in
theorem ggX5_dayOn_X5_redeem : GoodIn wsX5_dayOn wsX5_redeem := goodIn_r _ [49, 50, 51, 2, 52, 53, 13, 14, 15, 6, 16, 17, 18, 19, 20, 66, 67, 68, 69, 70, 71, 72, 73, 74, 75] (by decide +kernel) (by decide +kernel)
set_option maxRecDepth 20000 in
theorem gX5_dayOn_X5_redeem : GoodIn wsX5_dayOn (wsV RX5 92 RX5 yX5_redeem wsX5_redeem) := goodIn_app (goodIn_of _ (by decide +kernel)) ggX5_dayOn_X5_redeem
set_option maxRecDepth 20000 in
theorem ggX5_dayOn_X5_grow : GoodIn wsX5_dayOn wsX5_grow := goodIn_r _ [57, 2, 37, 38, 39, 40, 13, 14, 15, 6, 16, 17, 18, 19, 20, 58, 59, 60, 61, 66, 67, 68, 69, 70, 71, 72, 73, 74, 75] (by decide +kernel) (by decide +kernel)
set_option maxRecDepth 20000 in
theorem gX5_dayOn_X5_grow : GoodIn wsX5_dayOn (wsV RX5 95 RX5 yX5_grow wsX5_grow) := goodIn_app (goodIn_of _ (by decide +kernel)) ggX5_dayOn_X5_grow
set_option maxRecDepth 20000 in
theorem ggX5_dayOn_X5_haunt : GoodIn wsX5_dayOn wsX5_haunt := goodIn_r _ [65, 37, 38, 39, 40, 17, 18, 19, 6, 20, 2, 33, 34, 35, 36, 13, 14, 15, 16, 29, 30, 31, 32, 58, 59, 60, 61, 66, 67, 68, 69, 70, 71, 72, 73, 74, 75] (by decide +kernel) (by decide +kernel)
set_option maxRecDepth 20000 in
theorem gX5_dayOn_X5_haunt : GoodIn wsX5_dayOn (wsV RX5 99 RX5 yX5_haunt wsX5_haunt) := goodIn_app (goodIn_of _ (by decide +kernel)) ggX5_dayOn_X5_haunt
theorem dX5_dayOn_0 : decode cX5_dayOn 0 = .ok (.aload_n 0, 1) := by decide +kernel
theorem dX5_dayOn_1 : decode cX5_dayOn 1 = .ok (.invokevirtual 89, 3) := by decide +kernel
theorem dX5_dayOn_4 : decode cX5_dayOn 4 = .ok (.aload_n 0, 1) := by decide +kernel
theorem dX5_dayOn_5 : decode cX5_dayOn 5 = .ok (.invokevirtual 92, 3) := by decide +kernel
theorem dX5_dayOn_8 : decode cX5_dayOn 8 = .ok (.iconst 0, 1) := by decide +kernel
theorem dX5_dayOn_9 : decode cX5_dayOn 9 = .ok (.istore_n 1, 1) := by decide +kernel
theorem dX5_dayOn_10 : decode cX5_dayOn 10 = .ok (.iload_n 1, 1) := by decide +kernel
theorem dX5_dayOn_11 : decode cX5_dayOn 11 = .ok (.aload_n 0, 1) := by decide +kernel
theorem dX5_dayOn_12 : decode cX5_dayOn 12 = .ok (.getfield 35, 3) := by decide +kernel
theorem dX5_dayOn_15 : decode cX5_dayOn 15 = .ok (.if_icmp .ge 14, 3) := by decide +kernel
theorem dX5_dayOn_18 : decode cX5_dayOn 18 = .ok (.aload_n 0, 1) := by decide +kernel
theorem dX5_dayOn_19 : decode cX5_dayOn 19 = .ok (.iload_n 1, 1) := by decide +kernel
theorem dX5_dayOn_20 : decode cX5_dayOn 20 = .ok (.invokevirtual 95, 3) := by decide +kernel
theorem dX5_dayOn_23 : decode cX5_dayOn 23 = .ok (.iinc 1 1, 3) := by decide +kernel
theorem dX5_dayOn_26 : decode cX5_dayOn 26 = .ok (.goto (-16), 3) := by decide +kernel
theorem dX5_dayOn_29 : decode cX5_dayOn 29 = .ok (.iconst 0, 1) := by decide +kernel
theorem dX5_dayOn_30 : decode cX5_dayOn 30 = .ok (.istore_n 1, 1) := by decide +kernel
theorem dX5_dayOn_31 : decode cX5_dayOn 31 = .ok (.iload_n 1, 1) := by decide +kernel
theorem dX5_dayOn_32 : decode cX5_dayOn 32 = .ok (.aload_n 0, 1) := by decide +kernel
theorem dX5_dayOn_33 : decode cX5_dayOn 33 = .ok (.getfield 35, 3) := by decide +kernel
theorem dX5_dayOn_36 : decode cX5_dayOn 36 = .ok (.if_icmp .ge 14, 3) := by decide +kernel
theorem dX5_dayOn_39 : decode cX5_dayOn 39 = .ok (.aload_n 0, 1) := by decide +kernel
theorem dX5_dayOn_40 : decode cX5_dayOn 40 = .ok (.iload_n 1, 1) := by decide +kernel
theorem dX5_dayOn_41 : decode cX5_dayOn 41 = .ok (.invokevirtual 99, 3) := by decide +kernel
theorem dX5_dayOn_44 : decode cX5_dayOn 44 = .ok (.iinc 1 1, 3) := by decide +kernel
theorem dX5_dayOn_47 : decode cX5_dayOn 47 = .ok (.goto (-16), 3) := by decide +kernel
theorem dX5_dayOn_50 : decode cX5_dayOn 50 = .ok (.aload_n 0, 1) := by decide +kernel
theorem dX5_dayOn_51 : decode cX5_dayOn 51 = .ok (.getfield 26, 3) := by decide +kernel
theorem dX5_dayOn_54 : decode cX5_dayOn 54 = .ok (.iconst 0, 1) := by decide +kernel
theorem dX5_dayOn_55 : decode cX5_dayOn 55 = .ok (.dup2, 1) := by decide +kernel
theorem dX5_dayOn_56 : decode cX5_dayOn 56 = .ok (.iaload, 1) := by decide +kernel
theorem dX5_dayOn_57 : decode cX5_dayOn 57 = .ok (.iconst 1, 1) := by decide +kernel
theorem dX5_dayOn_58 : decode cX5_dayOn 58 = .ok (.iadd, 1) := by decide +kernel
theorem dX5_dayOn_59 : decode cX5_dayOn 59 = .ok (.iastore, 1) := by decide +kernel
theorem dX5_dayOn_60 : decode cX5_dayOn 60 = .ok (.return_, 1) := by decide +kernel
set_option maxRecDepth 20000 in
theorem ggX5_daysOn_X5_dayOn : GoodIn wsX5_daysOn wsX5_dayOn := goodIn_r _ [5, 6, 7, 8, 9, 10, 4, 11, 12, 13, 14, 15, 16, 17, 18, 19, 20, 21, 22, 23, 24, 25, 26, 27, 28, 29, 30, 31, 32, 33, 34, 35, 36, 37, 38, 39, 40, 41, 42, 43, 44, 45, 46, 47, 48, 49, 50, 51, 52, 53, 54, 55, 56, 57, 58, 59, 60, 61, 62, 63, 64, 65, 66, 67, 68, 69, 70, 71, 72, 73, 74, 75, 76, 77, 78, 79] (by decide +kernel) (by decide +kernel)
set_option maxRecDepth 20000 in
theorem gX5_daysOn_X5_dayOn : GoodIn wsX5_daysOn (wsV RX5 102 RX5 yX5_dayOn wsX5_dayOn) := goodIn_app (goodIn_of _ (by decide +kernel)) ggX5_daysOn_X5_dayOn
theorem dX5_daysOn_0 : decode cX5_daysOn 0 = .ok (.iconst 0, 1) := by decide +kernel
theorem dX5_daysOn_1 : decode cX5_daysOn 1 = .ok (.istore_n 2, 1) := by decide +kernel
theorem dX5_daysOn_2 : decode cX5_daysOn 2 = .ok (.iload_n 2, 1) := by decide +kernel
theorem dX5_daysOn_3 : decode cX5_daysOn 3 = .ok (.iload_n 1, 1) := by decide +kernel
theorem dX5_daysOn_4 : decode cX5_daysOn 4 = .ok (.if_icmp .ge 13, 3) := by decide +kernel
theorem dX5_daysOn_7 : decode cX5_daysOn 7 = .ok (.aload_n 0, 1) := by decide +kernel
theorem dX5_daysOn_8 : decode cX5_daysOn 8 = .ok (.invokevirtual 102, 3) := by decide +kernel
theorem dX5_daysOn_11 : decode cX5_daysOn 11 = .ok (.iinc 2 1, 3) := by decide +kernel
theorem dX5_daysOn_14 : decode cX5_daysOn 14 = .ok (.goto (-12), 3) := by decide +kernel
theorem dX5_daysOn_17 : decode cX5_daysOn 17 = .ok (.return_, 1) := by decide +kernel
set_option maxRecDepth 20000 in
theorem ggX5_addRuin_X5_isIn : GoodIn wsX5_addRuin wsX5_isIn := goodIn_r _ [7] (by decide +kernel) (by decide +kernel)
set_option maxRecDepth 20000 in
theorem gX5_addRuin_X5_isIn : GoodIn wsX5_addRuin (va_wsS RX5 38 yX5_isIn wsX5_isIn) := goodIn_app (goodIn_of _ (by decide +kernel)) ggX5_addRuin_X5_isIn
set_option maxRecDepth 20000 in
theorem ggX5_addRuin_X5_fail : GoodIn wsX5_addRuin wsX5_fail := goodIn_r _ [11, 1, 17, 18, 19, 20, 21, 22, 23, 24, 25, 26] (by decide +kernel) (by decide +kernel)
set_option maxRecDepth 20000 in
theorem gX5_addRuin_X5_fail : GoodIn wsX5_addRuin (wsV RX5 105 RX5 yX5_fail wsX5_fail) := goodIn_app (goodIn_of _ (by decide +kernel)) ggX5_addRuin_X5_fail
set_option maxRecDepth 20000 in
theorem ggX5_addRuin_X5_let : GoodIn wsX5_addRuin wsX5_let := goodIn_r _ [15, 16, 17, 18, 19, 20, 21, 22, 23, 24, 25, 26] (by decide +kernel) (by decide +kernel)
set_option maxRecDepth 20000 in
theorem gX5_addRuin_X5_let : GoodIn wsX5_addRuin (wsV RX5 85 RX5 yX5_let wsX5_let) := goodIn_app (goodIn_of _ (by decide +kernel)) ggX5_addRuin_X5_let
theorem dX5_addRuin_0 : decode cX5_addRuin 0 = .ok (.aload_n 0, 1) := by decide +kernel
theorem dX5_addRuin_1 : decode cX5_addRuin 1 = .ok (.iconst 0, 1) := by decide +kernel
theorem dX5_addRuin_2 : decode cX5_addRuin 2 = .ok (.putfield 32, 3) := by decide +kernel
theorem dX5_addRuin_5 : decode cX5_addRuin 5 = .ok (.iload_n 1, 1) := by decide +kernel
theorem dX5_addRuin_6 : decode cX5_addRuin 6 = .ok (.iconst 1, 1) := by decide +kernel
theorem dX5_addRuin_7 : decode cX5_addRuin 7 = .ok (.bipush 20, 2) := by decide +kernel
theorem dX5_addRuin_9 : decode cX5_addRuin 9 = .ok (.invokestatic 38, 3) := by decide +kernel
theorem dX5_addRuin_12 : decode cX5_addRuin 12 = .ok (.ifCond .eq 33, 3) := by decide +kernel
theorem dX5_addRuin_15 : decode cX5_addRuin 15 = .ok (.iload_n 2, 1) := by decide +kernel
theorem dX5_addRuin_16 : decode cX5_addRuin 16 = .ok (.iconst 0, 1) := by decide +kernel
theorem dX5_addRuin_17 : decode cX5_addRuin 17 = .ok (.bipush 12, 2) := by decide +kernel
theorem dX5_addRuin_19 : decode cX5_addRuin 19 = .ok (.invokestatic 38, 3) := by decide +kernel
theorem dX5_addRuin_22 : decode cX5_addRuin 22 = .ok (.ifCond .eq 23, 3) := by decide +kernel
theorem dX5_addRuin_25 : decode cX5_addRuin 25 = .ok (.iload_n 3, 1) := by decide +kernel
theorem dX5_addRuin_26 : decode cX5_addRuin 26 = .ok (.iconst 0, 1) := by decide +kernel
theorem dX5_addRuin_27 : decode cX5_addRuin 27 = .ok (.iconst 5, 1) := by decide +kernel
theorem dX5_addRuin_28 : decode cX5_addRuin 28 = .ok (.invokestatic 38, 3) := by decide +kernel
theorem dX5_addRuin_31 : decode cX5_addRuin 31 = .ok (.ifCond .eq 14, 3) := by decide +kernel
theorem dX5_addRuin_34 : decode cX5_addRuin 34 = .ok (.iload 4, 2) := by decide +kernel
theorem dX5_addRuin_36 : decode cX5_addRuin 36 = .ok (.iconst 0, 1) := by decide +kernel
theorem dX5_addRuin_37 : decode cX5_addRuin 37 = .ok (.bipush 9, 2) := by decide +kernel
theorem dX5_addRuin_39 : decode cX5_addRuin 39 = .ok (.invokestatic 38, 3) := by decide +kernel
theorem dX5_addRuin_42 : decode cX5_addRuin 42 = .ok (.ifCond .ne 9, 3) := by decide +kernel
theorem dX5_addRuin_45 : decode cX5_addRuin 45 = .ok (.aload_n 0, 1) := by decide +kernel
theorem dX5_addRuin_46 : decode cX5_addRuin 46 = .ok (.iconst 1, 1) := by decide +kernel
theorem dX5_addRuin_47 : decode cX5_addRuin 47 = .ok (.invokevirtual 105, 3) := by decide +kernel
theorem dX5_addRuin_50 : decode cX5_addRuin 50 = .ok (.ireturn, 1) := by decide +kernel
theorem dX5_addRuin_51 : decode cX5_addRuin 51 = .ok (.aload_n 0, 1) := by decide +kernel
theorem dX5_addRuin_52 : decode cX5_addRuin 52 = .ok (.getfield 35, 3) := by decide +kernel
theorem dX5_addRuin_55 : decode cX5_addRuin 55 = .ok (.bipush 10, 2) := by decide +kernel
theorem dX5_addRuin_57 : decode cX5_addRuin 57 = .ok (.if_icmp .ne 9, 3) := by decide +kernel
theorem dX5_addRuin_60 : decode cX5_addRuin 60 = .ok (.aload_n 0, 1) := by decide +kernel
theorem dX5_addRuin_61 : decode cX5_addRuin 61 = .ok (.iconst 2, 1) := by decide +kernel
theorem dX5_addRuin_62 : decode cX5_addRuin 62 = .ok (.invokevirtual 105, 3) := by decide +kernel
theorem dX5_addRuin_65 : decode cX5_addRuin 65 = .ok (.ireturn, 1) := by decide +kernel
theorem dX5_addRuin_66 : decode cX5_addRuin 66 = .ok (.aload_n 0, 1) := by decide +kernel
theorem dX5_addRuin_67 : decode cX5_addRuin 67 = .ok (.aload_n 0, 1) := by decide +kernel
theorem dX5_addRuin_68 : decode cX5_addRuin 68 = .ok (.getfield 35, 3) := by decide +kernel
theorem dX5_addRuin_71 : decode cX5_addRuin 71 = .ok (.iconst 0, 1) := by decide +kernel
theorem dX5_addRuin_72 : decode cX5_addRuin 72 = .ok (.iload_n 1, 1) := by decide +kernel
theorem dX5_addRuin_73 : decode cX5_addRuin 73 = .ok (.invokevirtual 85, 3) := by decide +kernel
theorem dX5_addRuin_76 : decode cX5_addRuin 76 = .ok (.aload_n 0, 1) := by decide +kernel
theorem dX5_addRuin_77 : decode cX5_addRuin 77 = .ok (.aload_n 0, 1) := by decide +kernel
theorem dX5_addRuin_78 : decode cX5_addRuin 78 = .ok (.getfield 35, 3) := by decide +kernel
theorem dX5_addRuin_81 : decode cX5_addRuin 81 = .ok (.iconst 1, 1) := by decide +kernel
theorem dX5_addRuin_82 : decode cX5_addRuin 82 = .ok (.iload_n 2, 1) := by decide +kernel
theorem dX5_addRuin_83 : decode cX5_addRuin 83 = .ok (.invokevirtual 85, 3) := by decide +kernel
theorem dX5_addRuin_86 : decode cX5_addRuin 86 = .ok (.aload_n 0, 1) := by decide +kernel
theorem dX5_addRuin_87 : decode cX5_addRuin 87 = .ok (.aload_n 0, 1) := by decide +kernel
theorem dX5_addRuin_88 : decode cX5_addRuin 88 = .ok (.getfield 35, 3) := by decide +kernel
theorem dX5_addRuin_91 : decode cX5_addRuin 91 = .ok (.iconst 2, 1) := by decide +kernel
theorem dX5_addRuin_92 : decode cX5_addRuin 92 = .ok (.iload_n 3, 1) := by decide +kernel
theorem dX5_addRuin_93 : decode cX5_addRuin 93 = .ok (.invokevirtual 85, 3) := by decide +kernel
theorem dX5_addRuin_96 : decode cX5_addRuin 96 = .ok (.aload_n 0, 1) := by decide +kernel
theorem dX5_addRuin_97 : decode cX5_addRuin 97 = .ok (.getfield 13, 3) := by decide +kernel
theorem dX5_addRuin_100 : decode cX5_addRuin 100 = .ok (.aload_n 0, 1) := by decide +kernel
theorem dX5_addRuin_101 : decode cX5_addRuin 101 = .ok (.getfield 35, 3) := by decide +kernel
theorem dX5_addRuin_104 : decode cX5_addRuin 104 = .ok (.iload 4, 2) := by decide +kernel
theorem dX5_addRuin_106 : decode cX5_addRuin 106 = .ok (.iastore, 1) := by decide +kernel
theorem dX5_addRuin_107 : decode cX5_addRuin 107 = .ok (.aload_n 0, 1) := by decide +kernel
theorem dX5_addRuin_108 : decode cX5_addRuin 108 = .ok (.dup, 1) := by decide +kernel
theorem dX5_addRuin_109 : decode cX5_addRuin 109 = .ok (.getfield 35, 3) := by decide +kernel
theorem dX5_addRuin_112 : decode cX5_addRuin 112 = .ok (.iconst 1, 1) := by decide +kernel
theorem dX5_addRuin_113 : decode cX5_addRuin 113 = .ok (.iadd, 1) := by decide +kernel
theorem dX5_addRuin_114 : decode cX5_addRuin 114 = .ok (.putfield 35, 3) := by decide +kernel
theorem dX5_addRuin_117 : decode cX5_addRuin 117 = .ok (.aload_n 0, 1) := by decide +kernel
theorem dX5_addRuin_118 : decode cX5_addRuin 118 = .ok (.getfield 35, 3) := by decide +kernel
theorem dX5_addRuin_121 : decode cX5_addRuin 121 = .ok (.iconst 1, 1) := by decide +kernel
theorem dX5_addRuin_122 : decode cX5_addRuin 122 = .ok (.isub, 1) := by decide +kernel
theorem dX5_addRuin_123 : decode cX5_addRuin 123 = .ok (.ireturn, 1) := by decide +kernel
set_option maxRecDepth 20000 in
theorem ggX5_cutIvy_X5_isRuin : GoodIn wsX5_cutIvy wsX5_isRuin := goodIn_r _ [10, 11, 12, 13, 9, 14, 28, 29, 30, 31, 32, 33, 34, 35, 36, 37] (by decide +kernel) (by decide +kernel)
set_option maxRecDepth 20000 in
theorem gX5_cutIvy_X5_isRuin : GoodIn wsX5_cutIvy (wsV RX5 108 RX5 yX5_isRuin wsX5_isRuin) := goodIn_app (goodIn_of _ (by decide +kernel)) ggX5_cutIvy_X5_isRuin
set_option maxRecDepth 20000 in
theorem ggX5_cutIvy_X5_fail : GoodIn wsX5_cutIvy wsX5_fail := goodIn_r _ [18, 1, 28, 29, 30, 31, 32, 33, 34, 35, 36, 37] (by decide +kernel) (by decide +kernel)
set_option maxRecDepth 20000 in
theorem gX5_cutIvy_X5_fail : GoodIn wsX5_cutIvy (wsV RX5 105 RX5 yX5_fail wsX5_fail) := goodIn_app (goodIn_of _ (by decide +kernel)) ggX5_cutIvy_X5_fail
set_option maxRecDepth 20000 in
theorem ggX5_cutIvy_X5_isIn : GoodIn wsX5_cutIvy wsX5_isIn := goodIn_r _ [14] (by decide +kernel) (by decide +kernel)
set_option maxRecDepth 20000 in
theorem gX5_cutIvy_X5_isIn : GoodIn wsX5_cutIvy (va_wsS RX5 38 yX5_isIn wsX5_isIn) := goodIn_app (goodIn_of _ (by decide +kernel)) ggX5_cutIvy_X5_isIn
set_option maxRecDepth 20000 in
theorem ggX5_cutIvy_X5_ru : GoodIn wsX5_cutIvy wsX5_ru := goodIn_r _ [22, 23, 28, 29, 30, 31, 32, 33, 34, 35, 36, 37] (by decide +kernel) (by decide +kernel)
set_option maxRecDepth 20000 in
theorem gX5_cutIvy_X5_ru : GoodIn wsX5_cutIvy (wsV RX5 57 RX5 yX5_ru wsX5_ru) := goodIn_app (goodIn_of _ (by decide +kernel)) ggX5_cutIvy_X5_ru
set_option maxRecDepth 20000 in
theorem ggX5_cutIvy_X5_let : GoodIn wsX5_cutIvy wsX5_let := goodIn_r _ [27, 23, 28, 29, 30, 31, 32, 33, 34, 35, 36, 37] (by decide +kernel) (by decide +kernel)
set_option maxRecDepth 20000 in
theorem gX5_cutIvy_X5_let : GoodIn wsX5_cutIvy (wsV RX5 85 RX5 yX5_let wsX5_let) := goodIn_app (goodIn_of _ (by decide +kernel)) ggX5_cutIvy_X5_let
theorem dX5_cutIvy_0 : decode cX5_cutIvy 0 = .ok (.aload_n 0, 1) := by decide +kernel
theorem dX5_cutIvy_1 : decode cX5_cutIvy 1 = .ok (.iconst 0, 1) := by decide +kernel
theorem dX5_cutIvy_2 : decode cX5_cutIvy 2 = .ok (.putfield 32, 3) := by decide +kernel
theorem dX5_cutIvy_5 : decode cX5_cutIvy 5 = .ok (.aload_n 0, 1) := by decide +kernel
theorem dX5_cutIvy_6 : decode cX5_cutIvy 6 = .ok (.iload_n 1, 1) := by decide +kernel
theorem dX5_cutIvy_7 : decode cX5_cutIvy 7 = .ok (.invokevirtual 108, 3) := by decide +kernel
theorem dX5_cutIvy_10 : decode cX5_cutIvy 10 = .ok (.ifCond .ne 9, 3) := by decide +kernel
theorem dX5_cutIvy_13 : decode cX5_cutIvy 13 = .ok (.aload_n 0, 1) := by decide +kernel
theorem dX5_cutIvy_14 : decode cX5_cutIvy 14 = .ok (.iconst 1, 1) := by decide +kernel
theorem dX5_cutIvy_15 : decode cX5_cutIvy 15 = .ok (.invokevirtual 105, 3) := by decide +kernel
theorem dX5_cutIvy_18 : decode cX5_cutIvy 18 = .ok (.ireturn, 1) := by decide +kernel
theorem dX5_cutIvy_19 : decode cX5_cutIvy 19 = .ok (.iload_n 2, 1) := by decide +kernel
theorem dX5_cutIvy_20 : decode cX5_cutIvy 20 = .ok (.iconst 1, 1) := by decide +kernel
theorem dX5_cutIvy_21 : decode cX5_cutIvy 21 = .ok (.bipush 12, 2) := by decide +kernel
theorem dX5_cutIvy_23 : decode cX5_cutIvy 23 = .ok (.invokestatic 38, 3) := by decide +kernel
theorem dX5_cutIvy_26 : decode cX5_cutIvy 26 = .ok (.ifCond .ne 9, 3) := by decide +kernel
theorem dX5_cutIvy_29 : decode cX5_cutIvy 29 = .ok (.aload_n 0, 1) := by decide +kernel
theorem dX5_cutIvy_30 : decode cX5_cutIvy 30 = .ok (.iconst 2, 1) := by decide +kernel
theorem dX5_cutIvy_31 : decode cX5_cutIvy 31 = .ok (.invokevirtual 105, 3) := by decide +kernel
theorem dX5_cutIvy_34 : decode cX5_cutIvy 34 = .ok (.ireturn, 1) := by decide +kernel
theorem dX5_cutIvy_35 : decode cX5_cutIvy 35 = .ok (.aload_n 0, 1) := by decide +kernel
theorem dX5_cutIvy_36 : decode cX5_cutIvy 36 = .ok (.iload_n 1, 1) := by decide +kernel
theorem dX5_cutIvy_37 : decode cX5_cutIvy 37 = .ok (.iconst 1, 1) := by decide +kernel
theorem dX5_cutIvy_38 : decode cX5_cutIvy 38 = .ok (.iconst 0, 1) := by decide +kernel
theorem dX5_cutIvy_39 : decode cX5_cutIvy 39 = .ok (.aload_n 0, 1) := by decide +kernel
theorem dX5_cutIvy_40 : decode cX5_cutIvy 40 = .ok (.iload_n 1, 1) := by decide +kernel
theorem dX5_cutIvy_41 : decode cX5_cutIvy 41 = .ok (.iconst 1, 1) := by decide +kernel
theorem dX5_cutIvy_42 : decode cX5_cutIvy 42 = .ok (.invokevirtual 57, 3) := by decide +kernel
theorem dX5_cutIvy_45 : decode cX5_cutIvy 45 = .ok (.iload_n 2, 1) := by decide +kernel
theorem dX5_cutIvy_46 : decode cX5_cutIvy 46 = .ok (.isub, 1) := by decide +kernel
theorem dX5_cutIvy_47 : decode cX5_cutIvy 47 = .ok (.invokestatic 111, 3) := by decide +kernel
theorem dX5_cutIvy_50 : decode cX5_cutIvy 50 = .ok (.invokevirtual 85, 3) := by decide +kernel
theorem dX5_cutIvy_53 : decode cX5_cutIvy 53 = .ok (.aload_n 0, 1) := by decide +kernel
theorem dX5_cutIvy_54 : decode cX5_cutIvy 54 = .ok (.iload_n 1, 1) := by decide +kernel
theorem dX5_cutIvy_55 : decode cX5_cutIvy 55 = .ok (.iconst 1, 1) := by decide +kernel
theorem dX5_cutIvy_56 : decode cX5_cutIvy 56 = .ok (.invokevirtual 57, 3) := by decide +kernel
theorem dX5_cutIvy_59 : decode cX5_cutIvy 59 = .ok (.ireturn, 1) := by decide +kernel
set_option maxRecDepth 20000 in
theorem ggX5_prop_X5_isRuin : GoodIn wsX5_prop wsX5_isRuin := goodIn_r _ [7, 8, 9, 10, 6, 11, 28, 29, 30, 31, 32, 33, 34, 35, 36, 37] (by decide +kernel) (by decide +kernel)
set_option maxRecDepth 20000 in
theorem gX5_prop_X5_isRuin : GoodIn wsX5_prop (wsV RX5 108 RX5 yX5_isRuin wsX5_isRuin) := goodIn_app (goodIn_of _ (by decide +kernel)) ggX5_prop_X5_isRuin
set_option maxRecDepth 20000 in
theorem ggX5_prop_X5_fail : GoodIn wsX5_prop wsX5_fail := goodIn_r _ [15, 1, 28, 29, 30, 31, 32, 33, 34, 35, 36, 37] (by decide +kernel) (by decide +kernel)
set_option maxRecDepth 20000 in
theorem gX5_prop_X5_fail : GoodIn wsX5_prop (wsV RX5 105 RX5 yX5_fail wsX5_fail) := goodIn_app (goodIn_of _ (by decide +kernel)) ggX5_prop_X5_fail
set_option maxRecDepth 20000 in
theorem ggX5_prop_X5_stands : GoodIn wsX5_prop wsX5_stands := goodIn_r _ [19, 20, 21, 22, 6, 23, 2, 28, 29, 30, 31, 32, 33, 34, 35, 36, 37] (by decide +kernel) (by decide +kernel)
set_option maxRecDepth 20000 in
theorem gX5_prop_X5_stands : GoodIn wsX5_prop (wsV RX5 60 RX5 yX5_stands wsX5_stands) := goodIn_app (goodIn_of _ (by decide +kernel)) ggX5_prop_X5_stands
set_option maxRecDepth 20000 in
theorem ggX5_prop_X5_ru : GoodIn wsX5_prop wsX5_ru := goodIn_r _ [23, 2, 28, 29, 30, 31, 32, 33, 34, 35, 36, 37] (by decide +kernel) (by decide +kernel)
set_option maxRecDepth 20000 in
theorem gX5_prop_X5_ru : GoodIn wsX5_prop (wsV RX5 57 RX5 yX5_ru wsX5_ru) := goodIn_app (goodIn_of _ (by decide +kernel)) ggX5_prop_X5_ru
set_option maxRecDepth 20000 in
theorem ggX5_prop_X5_let : GoodIn wsX5_prop wsX5_let := goodIn_r _ [27, 2, 28, 29, 30, 31, 32, 33, 34, 35, 36, 37] (by decide +kernel) (by decide +kernel)
set_option maxRecDepth 20000 in
theorem gX5_prop_X5_let : GoodIn wsX5_prop (wsV RX5 85 RX5 yX5_let wsX5_let) := goodIn_app (goodIn_of _ (by decide +kernel)) ggX5_prop_X5_let
theorem dX5_prop_0 : decode cX5_prop 0 = .ok (.aload_n 0, 1) := by decide +kernel
theorem dX5_prop_1 : decode cX5_prop 1 = .ok (.iconst 0, 1) := by decide +kernel
theorem dX5_prop_2 : decode cX5_prop 2 = .ok (.putfield 32, 3) := by decide +kernel
theorem dX5_prop_5 : decode cX5_prop 5 = .ok (.aload_n 0, 1) := by decide +kernel
theorem dX5_prop_6 : decode cX5_prop 6 = .ok (.iload_n 1, 1) := by decide +kernel
theorem dX5_prop_7 : decode cX5_prop 7 = .ok (.invokevirtual 108, 3) := by decide +kernel
theorem dX5_prop_10 : decode cX5_prop 10 = .ok (.ifCond .ne 9, 3) := by decide +kernel
theorem dX5_prop_13 : decode cX5_prop 13 = .ok (.aload_n 0, 1) := by decide +kernel
theorem dX5_prop_14 : decode cX5_prop 14 = .ok (.iconst 1, 1) := by decide +kernel
theorem dX5_prop_15 : decode cX5_prop 15 = .ok (.invokevirtual 105, 3) := by decide +kernel
theorem dX5_prop_18 : decode cX5_prop 18 = .ok (.ireturn, 1) := by decide +kernel
theorem dX5_prop_19 : decode cX5_prop 19 = .ok (.aload_n 0, 1) := by decide +kernel
theorem dX5_prop_20 : decode cX5_prop 20 = .ok (.iload_n 1, 1) := by decide +kernel
theorem dX5_prop_21 : decode cX5_prop 21 = .ok (.invokevirtual 60, 3) := by decide +kernel
theorem dX5_prop_24 : decode cX5_prop 24 = .ok (.ifCond .eq 24, 3) := by decide +kernel
theorem dX5_prop_27 : decode cX5_prop 27 = .ok (.aload_n 0, 1) := by decide +kernel
theorem dX5_prop_28 : decode cX5_prop 28 = .ok (.iload_n 1, 1) := by decide +kernel
theorem dX5_prop_29 : decode cX5_prop 29 = .ok (.iconst 0, 1) := by decide +kernel
theorem dX5_prop_30 : decode cX5_prop 30 = .ok (.invokevirtual 57, 3) := by decide +kernel
theorem dX5_prop_33 : decode cX5_prop 33 = .ok (.bipush 20, 2) := by decide +kernel
theorem dX5_prop_35 : decode cX5_prop 35 = .ok (.if_icmp .eq 13, 3) := by decide +kernel
theorem dX5_prop_38 : decode cX5_prop 38 = .ok (.aload_n 0, 1) := by decide +kernel
theorem dX5_prop_39 : decode cX5_prop 39 = .ok (.getfield 26, 3) := by decide +kernel
theorem dX5_prop_42 : decode cX5_prop 42 = .ok (.iconst 1, 1) := by decide +kernel
theorem dX5_prop_43 : decode cX5_prop 43 = .ok (.iaload, 1) := by decide +kernel
theorem dX5_prop_44 : decode cX5_prop 44 = .ok (.iconst 5, 1) := by decide +kernel
theorem dX5_prop_45 : decode cX5_prop 45 = .ok (.if_icmp .ge 9, 3) := by decide +kernel
theorem dX5_prop_48 : decode cX5_prop 48 = .ok (.aload_n 0, 1) := by decide +kernel
theorem dX5_prop_49 : decode cX5_prop 49 = .ok (.iconst 2, 1) := by decide +kernel
theorem dX5_prop_50 : decode cX5_prop 50 = .ok (.invokevirtual 105, 3) := by decide +kernel
theorem dX5_prop_53 : decode cX5_prop 53 = .ok (.ireturn, 1) := by decide +kernel
theorem dX5_prop_54 : decode cX5_prop 54 = .ok (.aload_n 0, 1) := by decide +kernel
theorem dX5_prop_55 : decode cX5_prop 55 = .ok (.getfield 26, 3) := by decide +kernel
theorem dX5_prop_58 : decode cX5_prop 58 = .ok (.iconst 1, 1) := by decide +kernel
theorem dX5_prop_59 : decode cX5_prop 59 = .ok (.dup2, 1) := by decide +kernel
theorem dX5_prop_60 : decode cX5_prop 60 = .ok (.iaload, 1) := by decide +kernel
theorem dX5_prop_61 : decode cX5_prop 61 = .ok (.iconst 5, 1) := by decide +kernel
theorem dX5_prop_62 : decode cX5_prop 62 = .ok (.isub, 1) := by decide +kernel
theorem dX5_prop_63 : decode cX5_prop 63 = .ok (.iastore, 1) := by decide +kernel
theorem dX5_prop_64 : decode cX5_prop 64 = .ok (.aload_n 0, 1) := by decide +kernel
theorem dX5_prop_65 : decode cX5_prop 65 = .ok (.iload_n 1, 1) := by decide +kernel
theorem dX5_prop_66 : decode cX5_prop 66 = .ok (.iconst 0, 1) := by decide +kernel
theorem dX5_prop_67 : decode cX5_prop 67 = .ok (.aload_n 0, 1) := by decide +kernel
theorem dX5_prop_68 : decode cX5_prop 68 = .ok (.iload_n 1, 1) := by decide +kernel
theorem dX5_prop_69 : decode cX5_prop 69 = .ok (.iconst 0, 1) := by decide +kernel
theorem dX5_prop_70 : decode cX5_prop 70 = .ok (.invokevirtual 57, 3) := by decide +kernel
theorem dX5_prop_73 : decode cX5_prop 73 = .ok (.iconst 1, 1) := by decide +kernel
theorem dX5_prop_74 : decode cX5_prop 74 = .ok (.iadd, 1) := by decide +kernel
theorem dX5_prop_75 : decode cX5_prop 75 = .ok (.invokevirtual 85, 3) := by decide +kernel
theorem dX5_prop_78 : decode cX5_prop 78 = .ok (.aload_n 0, 1) := by decide +kernel
theorem dX5_prop_79 : decode cX5_prop 79 = .ok (.iload_n 1, 1) := by decide +kernel
theorem dX5_prop_80 : decode cX5_prop 80 = .ok (.iconst 0, 1) := by decide +kernel
theorem dX5_prop_81 : decode cX5_prop 81 = .ok (.invokevirtual 57, 3) := by decide +kernel
theorem dX5_prop_84 : decode cX5_prop 84 = .ok (.ireturn, 1) := by decide +kernel
set_option maxRecDepth 20000 in
theorem ggX5_setPrice_X5_isRuin : GoodIn wsX5_setPrice wsX5_isRuin := goodIn_r _ [7, 8, 9, 10, 6, 11, 16, 17, 18, 19, 20, 21, 22, 23, 24, 25] (by decide +kernel) (by decide +kernel)
set_option maxRecDepth 20000 in
theorem gX5_setPrice_X5_isRuin : GoodIn wsX5_setPrice (wsV RX5 108 RX5 yX5_isRuin wsX5_isRuin) := goodIn_app (goodIn_of _ (by decide +kernel)) ggX5_setPrice_X5_isRuin
set_option maxRecDepth 20000 in
theorem ggX5_setPrice_X5_fail : GoodIn wsX5_setPrice wsX5_fail := goodIn_r _ [15, 1, 16, 17, 18, 19, 20, 21, 22, 23, 24, 25] (by decide +kernel) (by decide +kernel)
set_option maxRecDepth 20000 in
theorem gX5_setPrice_X5_fail : GoodIn wsX5_setPrice (wsV RX5 105 RX5 yX5_fail wsX5_fail) := goodIn_app (goodIn_of _ (by decide +kernel)) ggX5_setPrice_X5_fail
set_option maxRecDepth 20000 in
theorem ggX5_setPrice_X5_isIn : GoodIn wsX5_setPrice wsX5_isIn := goodIn_r _ [11] (by decide +kernel) (by decide +kernel)
set_option maxRecDepth 20000 in
theorem gX5_setPrice_X5_isIn : GoodIn wsX5_setPrice (va_wsS RX5 38 yX5_isIn wsX5_isIn) := goodIn_app (goodIn_of _ (by decide +kernel)) ggX5_setPrice_X5_isIn
theorem dX5_setPrice_0 : decode cX5_setPrice 0 = .ok (.aload_n 0, 1) := by decide +kernel
theorem dX5_setPrice_1 : decode cX5_setPrice 1 = .ok (.iconst 0, 1) := by decide +kernel
theorem dX5_setPrice_2 : decode cX5_setPrice 2 = .ok (.putfield 32, 3) := by decide +kernel
theorem dX5_setPrice_5 : decode cX5_setPrice 5 = .ok (.aload_n 0, 1) := by decide +kernel
theorem dX5_setPrice_6 : decode cX5_setPrice 6 = .ok (.iload_n 1, 1) := by decide +kernel
theorem dX5_setPrice_7 : decode cX5_setPrice 7 = .ok (.invokevirtual 108, 3) := by decide +kernel
theorem dX5_setPrice_10 : decode cX5_setPrice 10 = .ok (.ifCond .ne 9, 3) := by decide +kernel
theorem dX5_setPrice_13 : decode cX5_setPrice 13 = .ok (.aload_n 0, 1) := by decide +kernel
theorem dX5_setPrice_14 : decode cX5_setPrice 14 = .ok (.iconst 1, 1) := by decide +kernel
theorem dX5_setPrice_15 : decode cX5_setPrice 15 = .ok (.invokevirtual 105, 3) := by decide +kernel
theorem dX5_setPrice_18 : decode cX5_setPrice 18 = .ok (.ireturn, 1) := by decide +kernel
theorem dX5_setPrice_19 : decode cX5_setPrice 19 = .ok (.iload_n 2, 1) := by decide +kernel
theorem dX5_setPrice_20 : decode cX5_setPrice 20 = .ok (.iconst 0, 1) := by decide +kernel
theorem dX5_setPrice_21 : decode cX5_setPrice 21 = .ok (.bipush 9, 2) := by decide +kernel
theorem dX5_setPrice_23 : decode cX5_setPrice 23 = .ok (.invokestatic 38, 3) := by decide +kernel
theorem dX5_setPrice_26 : decode cX5_setPrice 26 = .ok (.ifCond .ne 9, 3) := by decide +kernel
theorem dX5_setPrice_29 : decode cX5_setPrice 29 = .ok (.aload_n 0, 1) := by decide +kernel
theorem dX5_setPrice_30 : decode cX5_setPrice 30 = .ok (.iconst 2, 1) := by decide +kernel
theorem dX5_setPrice_31 : decode cX5_setPrice 31 = .ok (.invokevirtual 105, 3) := by decide +kernel
theorem dX5_setPrice_34 : decode cX5_setPrice 34 = .ok (.ireturn, 1) := by decide +kernel
theorem dX5_setPrice_35 : decode cX5_setPrice 35 = .ok (.aload_n 0, 1) := by decide +kernel
theorem dX5_setPrice_36 : decode cX5_setPrice 36 = .ok (.getfield 13, 3) := by decide +kernel
theorem dX5_setPrice_39 : decode cX5_setPrice 39 = .ok (.iload_n 1, 1) := by decide +kernel
theorem dX5_setPrice_40 : decode cX5_setPrice 40 = .ok (.iaload, 1) := by decide +kernel
theorem dX5_setPrice_41 : decode cX5_setPrice 41 = .ok (.istore_n 3, 1) := by decide +kernel
theorem dX5_setPrice_42 : decode cX5_setPrice 42 = .ok (.aload_n 0, 1) := by decide +kernel
theorem dX5_setPrice_43 : decode cX5_setPrice 43 = .ok (.getfield 13, 3) := by decide +kernel
theorem dX5_setPrice_46 : decode cX5_setPrice 46 = .ok (.iload_n 1, 1) := by decide +kernel
theorem dX5_setPrice_47 : decode cX5_setPrice 47 = .ok (.iload_n 2, 1) := by decide +kernel
theorem dX5_setPrice_48 : decode cX5_setPrice 48 = .ok (.iastore, 1) := by decide +kernel
theorem dX5_setPrice_49 : decode cX5_setPrice 49 = .ok (.iload_n 3, 1) := by decide +kernel
theorem dX5_setPrice_50 : decode cX5_setPrice 50 = .ok (.ireturn, 1) := by decide +kernel
set_option maxRecDepth 20000 in
theorem ggX5_setGuests_X5_isIn : GoodIn wsX5_setGuests wsX5_isIn := goodIn_r _ [6] (by decide +kernel) (by decide +kernel)
set_option maxRecDepth 20000 in
theorem gX5_setGuests_X5_isIn : GoodIn wsX5_setGuests (va_wsS RX5 38 yX5_isIn wsX5_isIn) := goodIn_app (goodIn_of _ (by decide +kernel)) ggX5_setGuests_X5_isIn
set_option maxRecDepth 20000 in
theorem ggX5_setGuests_X5_fail : GoodIn wsX5_setGuests wsX5_fail := goodIn_r _ [10, 1, 11, 12, 13, 14, 15, 16, 17, 18, 19, 20] (by decide +kernel) (by decide +kernel)
set_option maxRecDepth 20000 in
theorem gX5_setGuests_X5_fail : GoodIn wsX5_setGuests (wsV RX5 105 RX5 yX5_fail wsX5_fail) := goodIn_app (goodIn_of _ (by decide +kernel)) ggX5_setGuests_X5_fail
theorem dX5_setGuests_0 : decode cX5_setGuests 0 = .ok (.aload_n 0, 1) := by decide +kernel
theorem dX5_setGuests_1 : decode cX5_setGuests 1 = .ok (.iconst 0, 1) := by decide +kernel
theorem dX5_setGuests_2 : decode cX5_setGuests 2 = .ok (.putfield 32, 3) := by decide +kernel
theorem dX5_setGuests_5 : decode cX5_setGuests 5 = .ok (.iload_n 1, 1) := by decide +kernel
theorem dX5_setGuests_6 : decode cX5_setGuests 6 = .ok (.iconst 0, 1) := by decide +kernel
theorem dX5_setGuests_7 : decode cX5_setGuests 7 = .ok (.bipush 40, 2) := by decide +kernel
theorem dX5_setGuests_9 : decode cX5_setGuests 9 = .ok (.invokestatic 38, 3) := by decide +kernel
theorem dX5_setGuests_12 : decode cX5_setGuests 12 = .ok (.ifCond .ne 9, 3) := by decide +kernel
theorem dX5_setGuests_15 : decode cX5_setGuests 15 = .ok (.aload_n 0, 1) := by decide +kernel
theorem dX5_setGuests_16 : decode cX5_setGuests 16 = .ok (.iconst 1, 1) := by decide +kernel
theorem dX5_setGuests_17 : decode cX5_setGuests 17 = .ok (.invokevirtual 105, 3) := by decide +kernel
theorem dX5_setGuests_20 : decode cX5_setGuests 20 = .ok (.ireturn, 1) := by decide +kernel
theorem dX5_setGuests_21 : decode cX5_setGuests 21 = .ok (.aload_n 0, 1) := by decide +kernel
theorem dX5_setGuests_22 : decode cX5_setGuests 22 = .ok (.getfield 7, 3) := by decide +kernel
theorem dX5_setGuests_25 : decode cX5_setGuests 25 = .ok (.istore_n 2, 1) := by decide +kernel
theorem dX5_setGuests_26 : decode cX5_setGuests 26 = .ok (.aload_n 0, 1) := by decide +kernel
theorem dX5_setGuests_27 : decode cX5_setGuests 27 = .ok (.iload_n 1, 1) := by decide +kernel
theorem dX5_setGuests_28 : decode cX5_setGuests 28 = .ok (.putfield 7, 3) := by decide +kernel
theorem dX5_setGuests_31 : decode cX5_setGuests 31 = .ok (.iload_n 2, 1) := by decide +kernel
theorem dX5_setGuests_32 : decode cX5_setGuests 32 = .ok (.ireturn, 1) := by decide +kernel
set_option maxRecDepth 20000 in
theorem ggX5_sellTicket_X5_isRuin : GoodIn wsX5_sellTicket wsX5_isRuin := goodIn_r _ [12, 13, 14, 15, 11, 16, 29, 30, 31, 32, 33, 34, 35, 36, 37, 38] (by decide +kernel) (by decide +kernel)
set_option maxRecDepth 20000 in
theorem gX5_sellTicket_X5_isRuin : GoodIn wsX5_sellTicket (wsV RX5 108 RX5 yX5_isRuin wsX5_isRuin) := goodIn_app (goodIn_of _ (by decide +kernel)) ggX5_sellTicket_X5_isRuin
set_option maxRecDepth 20000 in
theorem ggX5_sellTicket_X5_fail : GoodIn wsX5_sellTicket wsX5_fail := goodIn_r _ [20, 1, 29, 30, 31, 32, 33, 34, 35, 36, 37, 38] (by decide +kernel) (by decide +kernel)
set_option maxRecDepth 20000 in
theorem gX5_sellTicket_X5_fail : GoodIn wsX5_sellTicket (wsV RX5 105 RX5 yX5_fail wsX5_fail) := goodIn_app (goodIn_of _ (by decide +kernel)) ggX5_sellTicket_X5_fail
set_option maxRecDepth 20000 in
theorem ggX5_sellTicket_X5_isIn : GoodIn wsX5_sellTicket wsX5_isIn := goodIn_r _ [16] (by decide +kernel) (by decide +kernel)
set_option maxRecDepth 20000 in
theorem gX5_sellTicket_X5_isIn : GoodIn wsX5_sellTicket (va_wsS RX5 38 yX5_isIn wsX5_isIn) := goodIn_app (goodIn_of _ (by decide +kernel)) ggX5_sellTicket_X5_isIn
set_option maxRecDepth 20000 in
theorem ggX5_sellTicket_X5_stands : GoodIn wsX5_sellTicket wsX5_stands := goodIn_r _ [24, 25, 26, 27, 11, 28, 5, 29, 30, 31, 32, 33, 34, 35, 36, 37, 38] (by decide +kernel) (by decide +kernel)
set_option maxRecDepth 20000 in
theorem gX5_sellTicket_X5_stands : GoodIn wsX5_sellTicket (wsV RX5 60 RX5 yX5_stands wsX5_stands) := goodIn_app (goodIn_of _ (by decide +kernel)) ggX5_sellTicket_X5_stands
theorem dX5_sellTicket_0 : decode cX5_sellTicket 0 = .ok (.aload_n 0, 1) := by decide +kernel
theorem dX5_sellTicket_1 : decode cX5_sellTicket 1 = .ok (.iconst 0, 1) := by decide +kernel
theorem dX5_sellTicket_2 : decode cX5_sellTicket 2 = .ok (.putfield 32, 3) := by decide +kernel
theorem dX5_sellTicket_5 : decode cX5_sellTicket 5 = .ok (.aload_n 0, 1) := by decide +kernel
theorem dX5_sellTicket_6 : decode cX5_sellTicket 6 = .ok (.iload_n 1, 1) := by decide +kernel
theorem dX5_sellTicket_7 : decode cX5_sellTicket 7 = .ok (.invokevirtual 108, 3) := by decide +kernel
theorem dX5_sellTicket_10 : decode cX5_sellTicket 10 = .ok (.ifCond .ne 9, 3) := by decide +kernel
theorem dX5_sellTicket_13 : decode cX5_sellTicket 13 = .ok (.aload_n 0, 1) := by decide +kernel
theorem dX5_sellTicket_14 : decode cX5_sellTicket 14 = .ok (.iconst 1, 1) := by decide +kernel
theorem dX5_sellTicket_15 : decode cX5_sellTicket 15 = .ok (.invokevirtual 105, 3) := by decide +kernel
theorem dX5_sellTicket_18 : decode cX5_sellTicket 18 = .ok (.ireturn, 1) := by decide +kernel
theorem dX5_sellTicket_19 : decode cX5_sellTicket 19 = .ok (.iload_n 2, 1) := by decide +kernel
theorem dX5_sellTicket_20 : decode cX5_sellTicket 20 = .ok (.iconst 0, 1) := by decide +kernel
theorem dX5_sellTicket_21 : decode cX5_sellTicket 21 = .ok (.bipush 30, 2) := by decide +kernel
theorem dX5_sellTicket_23 : decode cX5_sellTicket 23 = .ok (.invokestatic 38, 3) := by decide +kernel
theorem dX5_sellTicket_26 : decode cX5_sellTicket 26 = .ok (.ifCond .ne 9, 3) := by decide +kernel
theorem dX5_sellTicket_29 : decode cX5_sellTicket 29 = .ok (.aload_n 0, 1) := by decide +kernel
theorem dX5_sellTicket_30 : decode cX5_sellTicket 30 = .ok (.iconst 2, 1) := by decide +kernel
theorem dX5_sellTicket_31 : decode cX5_sellTicket 31 = .ok (.invokevirtual 105, 3) := by decide +kernel
theorem dX5_sellTicket_34 : decode cX5_sellTicket 34 = .ok (.ireturn, 1) := by decide +kernel
theorem dX5_sellTicket_35 : decode cX5_sellTicket 35 = .ok (.aload_n 0, 1) := by decide +kernel
theorem dX5_sellTicket_36 : decode cX5_sellTicket 36 = .ok (.iload_n 1, 1) := by decide +kernel
theorem dX5_sellTicket_37 : decode cX5_sellTicket 37 = .ok (.invokevirtual 60, 3) := by decide +kernel
theorem dX5_sellTicket_40 : decode cX5_sellTicket 40 = .ok (.ifCond .eq 12, 3) := by decide +kernel
theorem dX5_sellTicket_43 : decode cX5_sellTicket 43 = .ok (.aload_n 0, 1) := by decide +kernel
theorem dX5_sellTicket_44 : decode cX5_sellTicket 44 = .ok (.getfield 42, 3) := by decide +kernel
theorem dX5_sellTicket_47 : decode cX5_sellTicket 47 = .ok (.bipush 30, 2) := by decide +kernel
theorem dX5_sellTicket_49 : decode cX5_sellTicket 49 = .ok (.if_icmp .ne 9, 3) := by decide +kernel
theorem dX5_sellTicket_52 : decode cX5_sellTicket 52 = .ok (.aload_n 0, 1) := by decide +kernel
theorem dX5_sellTicket_53 : decode cX5_sellTicket 53 = .ok (.iconst 3, 1) := by decide +kernel
theorem dX5_sellTicket_54 : decode cX5_sellTicket 54 = .ok (.invokevirtual 105, 3) := by decide +kernel
theorem dX5_sellTicket_57 : decode cX5_sellTicket 57 = .ok (.ireturn, 1) := by decide +kernel
theorem dX5_sellTicket_58 : decode cX5_sellTicket 58 = .ok (.aload_n 0, 1) := by decide +kernel
theorem dX5_sellTicket_59 : decode cX5_sellTicket 59 = .ok (.getfield 17, 3) := by decide +kernel
theorem dX5_sellTicket_62 : decode cX5_sellTicket 62 = .ok (.aload_n 0, 1) := by decide +kernel
theorem dX5_sellTicket_63 : decode cX5_sellTicket 63 = .ok (.getfield 42, 3) := by decide +kernel
theorem dX5_sellTicket_66 : decode cX5_sellTicket 66 = .ok (.iload_n 1, 1) := by decide +kernel
theorem dX5_sellTicket_67 : decode cX5_sellTicket 67 = .ok (.iastore, 1) := by decide +kernel
theorem dX5_sellTicket_68 : decode cX5_sellTicket 68 = .ok (.aload_n 0, 1) := by decide +kernel
theorem dX5_sellTicket_69 : decode cX5_sellTicket 69 = .ok (.getfield 20, 3) := by decide +kernel
theorem dX5_sellTicket_72 : decode cX5_sellTicket 72 = .ok (.aload_n 0, 1) := by decide +kernel
theorem dX5_sellTicket_73 : decode cX5_sellTicket 73 = .ok (.getfield 42, 3) := by decide +kernel
theorem dX5_sellTicket_76 : decode cX5_sellTicket 76 = .ok (.aload_n 0, 1) := by decide +kernel
theorem dX5_sellTicket_77 : decode cX5_sellTicket 77 = .ok (.getfield 26, 3) := by decide +kernel
theorem dX5_sellTicket_80 : decode cX5_sellTicket 80 = .ok (.iconst 0, 1) := by decide +kernel
theorem dX5_sellTicket_81 : decode cX5_sellTicket 81 = .ok (.iaload, 1) := by decide +kernel
theorem dX5_sellTicket_82 : decode cX5_sellTicket 82 = .ok (.iload_n 2, 1) := by decide +kernel
theorem dX5_sellTicket_83 : decode cX5_sellTicket 83 = .ok (.iadd, 1) := by decide +kernel
theorem dX5_sellTicket_84 : decode cX5_sellTicket 84 = .ok (.iastore, 1) := by decide +kernel
theorem dX5_sellTicket_85 : decode cX5_sellTicket 85 = .ok (.aload_n 0, 1) := by decide +kernel
theorem dX5_sellTicket_86 : decode cX5_sellTicket 86 = .ok (.getfield 23, 3) := by decide +kernel
theorem dX5_sellTicket_89 : decode cX5_sellTicket 89 = .ok (.aload_n 0, 1) := by decide +kernel
theorem dX5_sellTicket_90 : decode cX5_sellTicket 90 = .ok (.getfield 42, 3) := by decide +kernel
theorem dX5_sellTicket_93 : decode cX5_sellTicket 93 = .ok (.aload_n 0, 1) := by decide +kernel
theorem dX5_sellTicket_94 : decode cX5_sellTicket 94 = .ok (.getfield 13, 3) := by decide +kernel
theorem dX5_sellTicket_97 : decode cX5_sellTicket 97 = .ok (.iload_n 1, 1) := by decide +kernel
theorem dX5_sellTicket_98 : decode cX5_sellTicket 98 = .ok (.iaload, 1) := by decide +kernel
theorem dX5_sellTicket_99 : decode cX5_sellTicket 99 = .ok (.iastore, 1) := by decide +kernel
theorem dX5_sellTicket_100 : decode cX5_sellTicket 100 = .ok (.aload_n 0, 1) := by decide +kernel
theorem dX5_sellTicket_101 : decode cX5_sellTicket 101 = .ok (.getfield 26, 3) := by decide +kernel
theorem dX5_sellTicket_104 : decode cX5_sellTicket 104 = .ok (.iconst 1, 1) := by decide +kernel
theorem dX5_sellTicket_105 : decode cX5_sellTicket 105 = .ok (.dup2, 1) := by decide +kernel
theorem dX5_sellTicket_106 : decode cX5_sellTicket 106 = .ok (.iaload, 1) := by decide +kernel
theorem dX5_sellTicket_107 : decode cX5_sellTicket 107 = .ok (.aload_n 0, 1) := by decide +kernel
theorem dX5_sellTicket_108 : decode cX5_sellTicket 108 = .ok (.getfield 13, 3) := by decide +kernel
theorem dX5_sellTicket_111 : decode cX5_sellTicket 111 = .ok (.iload_n 1, 1) := by decide +kernel
theorem dX5_sellTicket_112 : decode cX5_sellTicket 112 = .ok (.iaload, 1) := by decide +kernel
theorem dX5_sellTicket_113 : decode cX5_sellTicket 113 = .ok (.iadd, 1) := by decide +kernel
theorem dX5_sellTicket_114 : decode cX5_sellTicket 114 = .ok (.iastore, 1) := by decide +kernel
theorem dX5_sellTicket_115 : decode cX5_sellTicket 115 = .ok (.aload_n 0, 1) := by decide +kernel
theorem dX5_sellTicket_116 : decode cX5_sellTicket 116 = .ok (.dup, 1) := by decide +kernel
theorem dX5_sellTicket_117 : decode cX5_sellTicket 117 = .ok (.getfield 42, 3) := by decide +kernel
theorem dX5_sellTicket_120 : decode cX5_sellTicket 120 = .ok (.iconst 1, 1) := by decide +kernel
theorem dX5_sellTicket_121 : decode cX5_sellTicket 121 = .ok (.iadd, 1) := by decide +kernel
theorem dX5_sellTicket_122 : decode cX5_sellTicket 122 = .ok (.putfield 42, 3) := by decide +kernel
theorem dX5_sellTicket_125 : decode cX5_sellTicket 125 = .ok (.aload_n 0, 1) := by decide +kernel
theorem dX5_sellTicket_126 : decode cX5_sellTicket 126 = .ok (.getfield 42, 3) := by decide +kernel
theorem dX5_sellTicket_129 : decode cX5_sellTicket 129 = .ok (.iconst 1, 1) := by decide +kernel
theorem dX5_sellTicket_130 : decode cX5_sellTicket 130 = .ok (.isub, 1) := by decide +kernel
theorem dX5_sellTicket_131 : decode cX5_sellTicket 131 = .ok (.ireturn, 1) := by decide +kernel
set_option maxRecDepth 20000 in
theorem ggX5_pass_X5_isIn : GoodIn wsX5_pass wsX5_isIn := goodIn_r _ [6] (by decide +kernel) (by decide +kernel)
set_option maxRecDepth 20000 in
theorem gX5_pass_X5_isIn : GoodIn wsX5_pass (va_wsS RX5 38 yX5_isIn wsX5_isIn) := goodIn_app (goodIn_of _ (by decide +kernel)) ggX5_pass_X5_isIn
set_option maxRecDepth 20000 in
theorem ggX5_pass_X5_fail : GoodIn wsX5_pass wsX5_fail := goodIn_r _ [10, 1, 82, 83, 84, 85, 86, 87, 88, 89, 90, 91] (by decide +kernel) (by decide +kernel)
set_option maxRecDepth 20000 in
theorem gX5_pass_X5_fail : GoodIn wsX5_pass (wsV RX5 105 RX5 yX5_fail wsX5_fail) := goodIn_app (goodIn_of _ (by decide +kernel)) ggX5_pass_X5_fail
set_option maxRecDepth 20000 in
theorem ggX5_pass_X5_daysOn : GoodIn wsX5_pass wsX5_daysOn := goodIn_r _ [14, 15, 16, 17, 5, 18, 19, 2, 20, 21, 22, 23, 24, 25, 26, 27, 28, 29, 30, 31, 32, 33, 34, 35, 36, 37, 38, 39, 40, 41, 42, 43, 44, 45, 46, 47, 48, 49, 50, 51, 52, 53, 54, 55, 56, 57, 58, 59, 60, 61, 62, 63, 64, 65, 66, 67, 68, 69, 70, 71, 72, 73, 74, 75, 76, 77, 78, 79, 80, 81, 82, 83, 84, 85, 86, 87, 88, 89, 90, 91] (by decide +kernel) (by decide +kernel)
set_option maxRecDepth 20000 in
theorem gX5_pass_X5_daysOn : GoodIn wsX5_pass (wsV RX5 114 RX5 yX5_daysOn wsX5_daysOn) := goodIn_app (goodIn_of _ (by decide +kernel)) ggX5_pass_X5_daysOn
theorem dX5_pass_0 : decode cX5_pass 0 = .ok (.aload_n 0, 1) := by decide +kernel
theorem dX5_pass_1 : decode cX5_pass 1 = .ok (.iconst 0, 1) := by decide +kernel
theorem dX5_pass_2 : decode cX5_pass 2 = .ok (.putfield 32, 3) := by decide +kernel
theorem dX5_pass_5 : decode cX5_pass 5 = .ok (.iload_n 1, 1) := by decide +kernel
theorem dX5_pass_6 : decode cX5_pass 6 = .ok (.iconst 1, 1) := by decide +kernel
theorem dX5_pass_7 : decode cX5_pass 7 = .ok (.bipush 60, 2) := by decide +kernel
theorem dX5_pass_9 : decode cX5_pass 9 = .ok (.invokestatic 38, 3) := by decide +kernel
theorem dX5_pass_12 : decode cX5_pass 12 = .ok (.ifCond .ne 9, 3) := by decide +kernel
theorem dX5_pass_15 : decode cX5_pass 15 = .ok (.aload_n 0, 1) := by decide +kernel
theorem dX5_pass_16 : decode cX5_pass 16 = .ok (.iconst 1, 1) := by decide +kernel
theorem dX5_pass_17 : decode cX5_pass 17 = .ok (.invokevirtual 105, 3) := by decide +kernel
theorem dX5_pass_20 : decode cX5_pass 20 = .ok (.ireturn, 1) := by decide +kernel
theorem dX5_pass_21 : decode cX5_pass 21 = .ok (.aload_n 0, 1) := by decide +kernel
theorem dX5_pass_22 : decode cX5_pass 22 = .ok (.getfield 26, 3) := by decide +kernel
theorem dX5_pass_25 : decode cX5_pass 25 = .ok (.iconst 1, 1) := by decide +kernel
theorem dX5_pass_26 : decode cX5_pass 26 = .ok (.iaload, 1) := by decide +kernel
theorem dX5_pass_27 : decode cX5_pass 27 = .ok (.istore_n 2, 1) := by decide +kernel
theorem dX5_pass_28 : decode cX5_pass 28 = .ok (.aload_n 0, 1) := by decide +kernel
theorem dX5_pass_29 : decode cX5_pass 29 = .ok (.iload_n 1, 1) := by decide +kernel
theorem dX5_pass_30 : decode cX5_pass 30 = .ok (.invokevirtual 114, 3) := by decide +kernel
theorem dX5_pass_33 : decode cX5_pass 33 = .ok (.aload_n 0, 1) := by decide +kernel
theorem dX5_pass_34 : decode cX5_pass 34 = .ok (.getfield 26, 3) := by decide +kernel
theorem dX5_pass_37 : decode cX5_pass 37 = .ok (.iconst 1, 1) := by decide +kernel
theorem dX5_pass_38 : decode cX5_pass 38 = .ok (.iaload, 1) := by decide +kernel
theorem dX5_pass_39 : decode cX5_pass 39 = .ok (.iload_n 2, 1) := by decide +kernel
theorem dX5_pass_40 : decode cX5_pass 40 = .ok (.isub, 1) := by decide +kernel
theorem dX5_pass_41 : decode cX5_pass 41 = .ok (.ireturn, 1) := by decide +kernel
set_option maxRecDepth 20000 in
theorem ggX5_day_X5_told : GoodIn wsX5_day wsX5_told := goodIn_r _ [6, 7, 8, 9, 10, 11, 12, 13, 14, 15, 16, 17] (by decide +kernel) (by decide +kernel)
set_option maxRecDepth 20000 in
theorem gX5_day_X5_told : GoodIn wsX5_day (wsV RX5 117 RX5 yX5_told wsX5_told) := goodIn_app (goodIn_of _ (by decide +kernel)) ggX5_day_X5_told
theorem dX5_day_0 : decode cX5_day 0 = .ok (.aload_n 0, 1) := by decide +kernel
theorem dX5_day_1 : decode cX5_day 1 = .ok (.aload_n 0, 1) := by decide +kernel
theorem dX5_day_2 : decode cX5_day 2 = .ok (.getfield 26, 3) := by decide +kernel
theorem dX5_day_5 : decode cX5_day 5 = .ok (.iconst 0, 1) := by decide +kernel
theorem dX5_day_6 : decode cX5_day 6 = .ok (.iaload, 1) := by decide +kernel
theorem dX5_day_7 : decode cX5_day 7 = .ok (.invokevirtual 117, 3) := by decide +kernel
theorem dX5_day_10 : decode cX5_day 10 = .ok (.ireturn, 1) := by decide +kernel
set_option maxRecDepth 20000 in
theorem ggX5_phase_X5_told : GoodIn wsX5_phase wsX5_told := goodIn_r _ [6, 7, 8, 9, 10, 11, 12, 13, 14, 15, 16, 17] (by decide +kernel) (by decide +kernel)
set_option maxRecDepth 20000 in
theorem gX5_phase_X5_told : GoodIn wsX5_phase (wsV RX5 117 RX5 yX5_told wsX5_told) := goodIn_app (goodIn_of _ (by decide +kernel)) ggX5_phase_X5_told
theorem dX5_phase_0 : decode cX5_phase 0 = .ok (.aload_n 0, 1) := by decide +kernel
theorem dX5_phase_1 : decode cX5_phase 1 = .ok (.aload_n 0, 1) := by decide +kernel
theorem dX5_phase_2 : decode cX5_phase 2 = .ok (.getfield 26, 3) := by decide +kernel
theorem dX5_phase_5 : decode cX5_phase 5 = .ok (.iconst 0, 1) := by decide +kernel
theorem dX5_phase_6 : decode cX5_phase 6 = .ok (.iaload, 1) := by decide +kernel
theorem dX5_phase_7 : decode cX5_phase 7 = .ok (.bipush 8, 2) := by decide +kernel
theorem dX5_phase_9 : decode cX5_phase 9 = .ok (.irem, 1) := by decide +kernel
theorem dX5_phase_10 : decode cX5_phase 10 = .ok (.invokevirtual 117, 3) := by decide +kernel
theorem dX5_phase_13 : decode cX5_phase 13 = .ok (.ireturn, 1) := by decide +kernel
set_option maxRecDepth 20000 in
theorem ggX5_brightness_X5_light : GoodIn wsX5_brightness wsX5_light := goodIn_r _ [5, 6, 7, 8, 9, 10, 16, 17, 18, 19, 20, 21, 22, 23, 24, 25] (by decide +kernel) (by decide +kernel)
set_option maxRecDepth 20000 in
theorem gX5_brightness_X5_light : GoodIn wsX5_brightness (wsV RX5 68 RX5 yX5_light wsX5_light) := goodIn_app (goodIn_of _ (by decide +kernel)) ggX5_brightness_X5_light
set_option maxRecDepth 20000 in
theorem ggX5_brightness_X5_told : GoodIn wsX5_brightness wsX5_told := goodIn_r _ [14, 15, 16, 17, 18, 19, 20, 21, 22, 23, 24, 25] (by decide +kernel) (by decide +kernel)
set_option maxRecDepth 20000 in
theorem gX5_brightness_X5_told : GoodIn wsX5_brightness (wsV RX5 117 RX5 yX5_told wsX5_told) := goodIn_app (goodIn_of _ (by decide +kernel)) ggX5_brightness_X5_told
theorem dX5_brightness_0 : decode cX5_brightness 0 = .ok (.aload_n 0, 1) := by decide +kernel
theorem dX5_brightness_1 : decode cX5_brightness 1 = .ok (.aload_n 0, 1) := by decide +kernel
theorem dX5_brightness_2 : decode cX5_brightness 2 = .ok (.invokevirtual 68, 3) := by decide +kernel
theorem dX5_brightness_5 : decode cX5_brightness 5 = .ok (.invokevirtual 117, 3) := by decide +kernel
theorem dX5_brightness_8 : decode cX5_brightness 8 = .ok (.ireturn, 1) := by decide +kernel
set_option maxRecDepth 20000 in
theorem ggX5_daysUntilFullMoon_X5_told : GoodIn wsX5_daysUntilFullMoon wsX5_told := goodIn_r _ [6, 7, 8, 9, 10, 11, 12, 13, 14, 15, 16, 17] (by decide +kernel) (by decide +kernel)
set_option maxRecDepth 20000 in
theorem gX5_daysUntilFullMoon_X5_told : GoodIn wsX5_daysUntilFullMoon (wsV RX5 117 RX5 yX5_told wsX5_told) := goodIn_app (goodIn_of _ (by decide +kernel)) ggX5_daysUntilFullMoon_X5_told
theorem dX5_daysUntilFullMoon_0 : decode cX5_daysUntilFullMoon 0 = .ok (.aload_n 0, 1) := by decide +kernel
theorem dX5_daysUntilFullMoon_1 : decode cX5_daysUntilFullMoon 1 = .ok (.bipush 12, 2) := by decide +kernel
theorem dX5_daysUntilFullMoon_3 : decode cX5_daysUntilFullMoon 3 = .ok (.aload_n 0, 1) := by decide +kernel
theorem dX5_daysUntilFullMoon_4 : decode cX5_daysUntilFullMoon 4 = .ok (.getfield 26, 3) := by decide +kernel
theorem dX5_daysUntilFullMoon_7 : decode cX5_daysUntilFullMoon 7 = .ok (.iconst 0, 1) := by decide +kernel
theorem dX5_daysUntilFullMoon_8 : decode cX5_daysUntilFullMoon 8 = .ok (.iaload, 1) := by decide +kernel
theorem dX5_daysUntilFullMoon_9 : decode cX5_daysUntilFullMoon 9 = .ok (.bipush 8, 2) := by decide +kernel
theorem dX5_daysUntilFullMoon_11 : decode cX5_daysUntilFullMoon 11 = .ok (.irem, 1) := by decide +kernel
theorem dX5_daysUntilFullMoon_12 : decode cX5_daysUntilFullMoon 12 = .ok (.isub, 1) := by decide +kernel
theorem dX5_daysUntilFullMoon_13 : decode cX5_daysUntilFullMoon 13 = .ok (.bipush 8, 2) := by decide +kernel
theorem dX5_daysUntilFullMoon_15 : decode cX5_daysUntilFullMoon 15 = .ok (.irem, 1) := by decide +kernel
theorem dX5_daysUntilFullMoon_16 : decode cX5_daysUntilFullMoon 16 = .ok (.invokevirtual 117, 3) := by decide +kernel
theorem dX5_daysUntilFullMoon_19 : decode cX5_daysUntilFullMoon 19 = .ok (.ireturn, 1) := by decide +kernel
set_option maxRecDepth 20000 in
theorem ggX5_ruins_X5_told : GoodIn wsX5_ruins wsX5_told := goodIn_r _ [6, 7, 8, 9, 10, 11, 12, 13, 14, 15, 16, 17] (by decide +kernel) (by decide +kernel)
set_option maxRecDepth 20000 in
theorem gX5_ruins_X5_told : GoodIn wsX5_ruins (wsV RX5 117 RX5 yX5_told wsX5_told) := goodIn_app (goodIn_of _ (by decide +kernel)) ggX5_ruins_X5_told
theorem dX5_ruins_0 : decode cX5_ruins 0 = .ok (.aload_n 0, 1) := by decide +kernel
theorem dX5_ruins_1 : decode cX5_ruins 1 = .ok (.aload_n 0, 1) := by decide +kernel
theorem dX5_ruins_2 : decode cX5_ruins 2 = .ok (.getfield 35, 3) := by decide +kernel
theorem dX5_ruins_5 : decode cX5_ruins 5 = .ok (.invokevirtual 117, 3) := by decide +kernel
theorem dX5_ruins_8 : decode cX5_ruins 8 = .ok (.ireturn, 1) := by decide +kernel
set_option maxRecDepth 20000 in
theorem ggX5_many_X5_stands : GoodIn wsX5_many wsX5_stands := goodIn_r _ [6, 7, 8, 9, 5, 10, 11, 12, 13, 14, 15, 16, 17, 18, 19, 20, 21] (by decide +kernel) (by decide +kernel)
set_option maxRecDepth 20000 in
theorem gX5_many_X5_stands : GoodIn wsX5_many (wsV RX5 60 RX5 yX5_stands wsX5_stands) := goodIn_app (goodIn_of _ (by decide +kernel)) ggX5_many_X5_stands
theorem dX5_many_0 : decode cX5_many 0 = .ok (.iconst 0, 1) := by decide +kernel
theorem dX5_many_1 : decode cX5_many 1 = .ok (.istore_n 1, 1) := by decide +kernel
theorem dX5_many_2 : decode cX5_many 2 = .ok (.iconst 0, 1) := by decide +kernel
theorem dX5_many_3 : decode cX5_many 3 = .ok (.istore_n 2, 1) := by decide +kernel
theorem dX5_many_4 : decode cX5_many 4 = .ok (.iload_n 2, 1) := by decide +kernel
theorem dX5_many_5 : decode cX5_many 5 = .ok (.aload_n 0, 1) := by decide +kernel
theorem dX5_many_6 : decode cX5_many 6 = .ok (.getfield 35, 3) := by decide +kernel
theorem dX5_many_9 : decode cX5_many 9 = .ok (.if_icmp .ge 25, 3) := by decide +kernel
theorem dX5_many_12 : decode cX5_many 12 = .ok (.iload_n 1, 1) := by decide +kernel
theorem dX5_many_13 : decode cX5_many 13 = .ok (.aload_n 0, 1) := by decide +kernel
theorem dX5_many_14 : decode cX5_many 14 = .ok (.iload_n 2, 1) := by decide +kernel
theorem dX5_many_15 : decode cX5_many 15 = .ok (.invokevirtual 60, 3) := by decide +kernel
theorem dX5_many_18 : decode cX5_many 18 = .ok (.ifCond .eq 7, 3) := by decide +kernel
theorem dX5_many_21 : decode cX5_many 21 = .ok (.iconst 1, 1) := by decide +kernel
theorem dX5_many_22 : decode cX5_many 22 = .ok (.goto 4, 3) := by decide +kernel
theorem dX5_many_25 : decode cX5_many 25 = .ok (.iconst 0, 1) := by decide +kernel
theorem dX5_many_26 : decode cX5_many 26 = .ok (.iadd, 1) := by decide +kernel
theorem dX5_many_27 : decode cX5_many 27 = .ok (.istore_n 1, 1) := by decide +kernel
theorem dX5_many_28 : decode cX5_many 28 = .ok (.iinc 2 1, 3) := by decide +kernel
theorem dX5_many_31 : decode cX5_many 31 = .ok (.goto (-27), 3) := by decide +kernel
theorem dX5_many_34 : decode cX5_many 34 = .ok (.iload_n 1, 1) := by decide +kernel
theorem dX5_many_35 : decode cX5_many 35 = .ok (.ireturn, 1) := by decide +kernel
set_option maxRecDepth 20000 in
theorem ggX5_standing_X5_many : GoodIn wsX5_standing wsX5_many := goodIn_r _ [5, 6, 7, 8, 9, 4, 10, 11, 12, 13, 14, 15, 21, 22, 23, 24, 25, 26, 27, 28, 29, 30] (by decide +kernel) (by decide +kernel)
set_option maxRecDepth 20000 in
theorem gX5_standing_X5_many : GoodIn wsX5_standing (wsV RX5 120 RX5 yX5_many wsX5_many) := goodIn_app (goodIn_of _ (by decide +kernel)) ggX5_standing_X5_many
set_option maxRecDepth 20000 in
theorem ggX5_standing_X5_told : GoodIn wsX5_standing wsX5_told := goodIn_r _ [19, 20, 21, 22, 23, 24, 25, 26, 27, 28, 29, 30] (by decide +kernel) (by decide +kernel)
set_option maxRecDepth 20000 in
theorem gX5_standing_X5_told : GoodIn wsX5_standing (wsV RX5 117 RX5 yX5_told wsX5_told) := goodIn_app (goodIn_of _ (by decide +kernel)) ggX5_standing_X5_told
theorem dX5_standing_0 : decode cX5_standing 0 = .ok (.aload_n 0, 1) := by decide +kernel
theorem dX5_standing_1 : decode cX5_standing 1 = .ok (.aload_n 0, 1) := by decide +kernel
theorem dX5_standing_2 : decode cX5_standing 2 = .ok (.invokevirtual 120, 3) := by decide +kernel
theorem dX5_standing_5 : decode cX5_standing 5 = .ok (.invokevirtual 117, 3) := by decide +kernel
theorem dX5_standing_8 : decode cX5_standing 8 = .ok (.ireturn, 1) := by decide +kernel
set_option maxRecDepth 20000 in
theorem ggX5_purse_X5_told : GoodIn wsX5_purse wsX5_told := goodIn_r _ [6, 7, 8, 9, 10, 11, 12, 13, 14, 15, 16, 17] (by decide +kernel) (by decide +kernel)
set_option maxRecDepth 20000 in
theorem gX5_purse_X5_told : GoodIn wsX5_purse (wsV RX5 117 RX5 yX5_told wsX5_told) := goodIn_app (goodIn_of _ (by decide +kernel)) ggX5_purse_X5_told
theorem dX5_purse_0 : decode cX5_purse 0 = .ok (.aload_n 0, 1) := by decide +kernel
theorem dX5_purse_1 : decode cX5_purse 1 = .ok (.aload_n 0, 1) := by decide +kernel
theorem dX5_purse_2 : decode cX5_purse 2 = .ok (.getfield 26, 3) := by decide +kernel
theorem dX5_purse_5 : decode cX5_purse 5 = .ok (.iconst 1, 1) := by decide +kernel
theorem dX5_purse_6 : decode cX5_purse 6 = .ok (.iaload, 1) := by decide +kernel
theorem dX5_purse_7 : decode cX5_purse 7 = .ok (.invokevirtual 117, 3) := by decide +kernel
theorem dX5_purse_10 : decode cX5_purse 10 = .ok (.ireturn, 1) := by decide +kernel
set_option maxRecDepth 20000 in
theorem ggX5_ruin_X5_isRuin : GoodIn wsX5_ruin wsX5_isRuin := goodIn_r _ [6, 7, 8, 9, 5, 10, 20, 21, 22, 23, 24, 25, 26, 27, 28, 29] (by decide +kernel) (by decide +kernel)
set_option maxRecDepth 20000 in
theorem gX5_ruin_X5_isRuin : GoodIn wsX5_ruin (wsV RX5 108 RX5 yX5_isRuin wsX5_isRuin) := goodIn_app (goodIn_of _ (by decide +kernel)) ggX5_ruin_X5_isRuin
set_option maxRecDepth 20000 in
theorem ggX5_ruin_X5_ru : GoodIn wsX5_ruin wsX5_ru := goodIn_r _ [14, 15, 20, 21, 22, 23, 24, 25, 26, 27, 28, 29] (by decide +kernel) (by decide +kernel)
set_option maxRecDepth 20000 in
theorem gX5_ruin_X5_ru : GoodIn wsX5_ruin (wsV RX5 57 RX5 yX5_ru wsX5_ru) := goodIn_app (goodIn_of _ (by decide +kernel)) ggX5_ruin_X5_ru
set_option maxRecDepth 20000 in
theorem ggX5_ruin_X5_fail : GoodIn wsX5_ruin wsX5_fail := goodIn_r _ [19, 1, 20, 21, 22, 23, 24, 25, 26, 27, 28, 29] (by decide +kernel) (by decide +kernel)
set_option maxRecDepth 20000 in
theorem gX5_ruin_X5_fail : GoodIn wsX5_ruin (wsV RX5 105 RX5 yX5_fail wsX5_fail) := goodIn_app (goodIn_of _ (by decide +kernel)) ggX5_ruin_X5_fail
theorem dX5_ruin_0 : decode cX5_ruin 0 = .ok (.aload_n 0, 1) := by decide +kernel
theorem dX5_ruin_1 : decode cX5_ruin 1 = .ok (.iconst 0, 1) := by decide +kernel
theorem dX5_ruin_2 : decode cX5_ruin 2 = .ok (.putfield 32, 3) := by decide +kernel
theorem dX5_ruin_5 : decode cX5_ruin 5 = .ok (.aload_n 0, 1) := by decide +kernel
theorem dX5_ruin_6 : decode cX5_ruin 6 = .ok (.iload_n 1, 1) := by decide +kernel
theorem dX5_ruin_7 : decode cX5_ruin 7 = .ok (.invokevirtual 108, 3) := by decide +kernel
theorem dX5_ruin_10 : decode cX5_ruin 10 = .ok (.ifCond .eq 12, 3) := by decide +kernel
theorem dX5_ruin_13 : decode cX5_ruin 13 = .ok (.aload_n 0, 1) := by decide +kernel
theorem dX5_ruin_14 : decode cX5_ruin 14 = .ok (.iload_n 1, 1) := by decide +kernel
theorem dX5_ruin_15 : decode cX5_ruin 15 = .ok (.iload_n 2, 1) := by decide +kernel
theorem dX5_ruin_16 : decode cX5_ruin 16 = .ok (.invokevirtual 57, 3) := by decide +kernel
theorem dX5_ruin_19 : decode cX5_ruin 19 = .ok (.goto 8, 3) := by decide +kernel
theorem dX5_ruin_22 : decode cX5_ruin 22 = .ok (.aload_n 0, 1) := by decide +kernel
theorem dX5_ruin_23 : decode cX5_ruin 23 = .ok (.iconst 1, 1) := by decide +kernel
theorem dX5_ruin_24 : decode cX5_ruin 24 = .ok (.invokevirtual 105, 3) := by decide +kernel
theorem dX5_ruin_27 : decode cX5_ruin 27 = .ok (.ireturn, 1) := by decide +kernel
set_option maxRecDepth 20000 in
theorem ggX5_wallsOf_X5_ruin : GoodIn wsX5_wallsOf wsX5_ruin := goodIn_r _ [5, 6, 7, 8, 9, 4, 10, 11, 12, 13, 14, 15, 16, 17, 18, 19, 20, 21, 22, 23, 24, 25, 26, 27, 28, 29, 30, 31, 32, 33] (by decide +kernel) (by decide +kernel)
set_option maxRecDepth 20000 in
theorem gX5_wallsOf_X5_ruin : GoodIn wsX5_wallsOf (wsV RX5 123 RX5 yX5_ruin wsX5_ruin) := goodIn_app (goodIn_of _ (by decide +kernel)) ggX5_wallsOf_X5_ruin
theorem dX5_wallsOf_0 : decode cX5_wallsOf 0 = .ok (.aload_n 0, 1) := by decide +kernel
theorem dX5_wallsOf_1 : decode cX5_wallsOf 1 = .ok (.iload_n 1, 1) := by decide +kernel
theorem dX5_wallsOf_2 : decode cX5_wallsOf 2 = .ok (.iconst 0, 1) := by decide +kernel
theorem dX5_wallsOf_3 : decode cX5_wallsOf 3 = .ok (.invokevirtual 123, 3) := by decide +kernel
theorem dX5_wallsOf_6 : decode cX5_wallsOf 6 = .ok (.ireturn, 1) := by decide +kernel
set_option maxRecDepth 20000 in
theorem ggX5_ivyOf_X5_ruin : GoodIn wsX5_ivyOf wsX5_ruin := goodIn_r _ [5, 6, 7, 8, 9, 4, 10, 11, 12, 13, 14, 15, 16, 17, 18, 19, 20, 21, 22, 23, 24, 25, 26, 27, 28, 29, 30, 31, 32, 33] (by decide +kernel) (by decide +kernel)
set_option maxRecDepth 20000 in
theorem gX5_ivyOf_X5_ruin : GoodIn wsX5_ivyOf (wsV RX5 123 RX5 yX5_ruin wsX5_ruin) := goodIn_app (goodIn_of _ (by decide +kernel)) ggX5_ivyOf_X5_ruin
theorem dX5_ivyOf_0 : decode cX5_ivyOf 0 = .ok (.aload_n 0, 1) := by decide +kernel
theorem dX5_ivyOf_1 : decode cX5_ivyOf 1 = .ok (.iload_n 1, 1) := by decide +kernel
theorem dX5_ivyOf_2 : decode cX5_ivyOf 2 = .ok (.iconst 1, 1) := by decide +kernel
theorem dX5_ivyOf_3 : decode cX5_ivyOf 3 = .ok (.invokevirtual 123, 3) := by decide +kernel
theorem dX5_ivyOf_6 : decode cX5_ivyOf 6 = .ok (.ireturn, 1) := by decide +kernel
set_option maxRecDepth 20000 in
theorem ggX5_gradeOf_X5_isRuin : GoodIn wsX5_gradeOf wsX5_isRuin := goodIn_r _ [6, 7, 8, 9, 5, 10, 24, 25, 26, 27, 28, 29, 30, 31, 32, 33] (by decide +kernel) (by decide +kernel)
set_option maxRecDepth 20000 in
theorem gX5_gradeOf_X5_isRuin : GoodIn wsX5_gradeOf (wsV RX5 108 RX5 yX5_isRuin wsX5_isRuin) := goodIn_app (goodIn_of _ (by decide +kernel)) ggX5_gradeOf_X5_isRuin
set_option maxRecDepth 20000 in
theorem ggX5_gradeOf_X5_grade : GoodIn wsX5_gradeOf wsX5_grade := goodIn_r _ [14, 15, 16, 17, 5, 18, 19, 24, 25, 26, 27, 28, 29, 30, 31, 32, 33] (by decide +kernel) (by decide +kernel)
set_option maxRecDepth 20000 in
theorem gX5_gradeOf_X5_grade : GoodIn wsX5_gradeOf (wsV RX5 64 RX5 yX5_grade wsX5_grade) := goodIn_app (goodIn_of _ (by decide +kernel)) ggX5_gradeOf_X5_grade
set_option maxRecDepth 20000 in
theorem ggX5_gradeOf_X5_fail : GoodIn wsX5_gradeOf wsX5_fail := goodIn_r _ [23, 1, 24, 25, 26, 27, 28, 29, 30, 31, 32, 33] (by decide +kernel) (by decide +kernel)
set_option maxRecDepth 20000 in
theorem gX5_gradeOf_X5_fail : GoodIn wsX5_gradeOf (wsV RX5 105 RX5 yX5_fail wsX5_fail) := goodIn_app (goodIn_of _ (by decide +kernel)) ggX5_gradeOf_X5_fail
theorem dX5_gradeOf_0 : decode cX5_gradeOf 0 = .ok (.aload_n 0, 1) := by decide +kernel
theorem dX5_gradeOf_1 : decode cX5_gradeOf 1 = .ok (.iconst 0, 1) := by decide +kernel
theorem dX5_gradeOf_2 : decode cX5_gradeOf 2 = .ok (.putfield 32, 3) := by decide +kernel
theorem dX5_gradeOf_5 : decode cX5_gradeOf 5 = .ok (.aload_n 0, 1) := by decide +kernel
theorem dX5_gradeOf_6 : decode cX5_gradeOf 6 = .ok (.iload_n 1, 1) := by decide +kernel
theorem dX5_gradeOf_7 : decode cX5_gradeOf 7 = .ok (.invokevirtual 108, 3) := by decide +kernel
theorem dX5_gradeOf_10 : decode cX5_gradeOf 10 = .ok (.ifCond .eq 11, 3) := by decide +kernel
theorem dX5_gradeOf_13 : decode cX5_gradeOf 13 = .ok (.aload_n 0, 1) := by decide +kernel
theorem dX5_gradeOf_14 : decode cX5_gradeOf 14 = .ok (.iload_n 1, 1) := by decide +kernel
theorem dX5_gradeOf_15 : decode cX5_gradeOf 15 = .ok (.invokevirtual 64, 3) := by decide +kernel
theorem dX5_gradeOf_18 : decode cX5_gradeOf 18 = .ok (.goto 8, 3) := by decide +kernel
theorem dX5_gradeOf_21 : decode cX5_gradeOf 21 = .ok (.aload_n 0, 1) := by decide +kernel
theorem dX5_gradeOf_22 : decode cX5_gradeOf 22 = .ok (.iconst 1, 1) := by decide +kernel
theorem dX5_gradeOf_23 : decode cX5_gradeOf 23 = .ok (.invokevirtual 105, 3) := by decide +kernel
theorem dX5_gradeOf_26 : decode cX5_gradeOf 26 = .ok (.ireturn, 1) := by decide +kernel
set_option maxRecDepth 20000 in
theorem ggX5_ghostsOf_X5_ruin : GoodIn wsX5_ghostsOf wsX5_ruin := goodIn_r _ [5, 6, 7, 8, 9, 4, 10, 11, 12, 13, 14, 15, 16, 17, 18, 19, 20, 21, 22, 23, 24, 25, 26, 27, 28, 29, 30, 31, 32, 33] (by decide +kernel) (by decide +kernel)
set_option maxRecDepth 20000 in
theorem gX5_ghostsOf_X5_ruin : GoodIn wsX5_ghostsOf (wsV RX5 123 RX5 yX5_ruin wsX5_ruin) := goodIn_app (goodIn_of _ (by decide +kernel)) ggX5_ghostsOf_X5_ruin
theorem dX5_ghostsOf_0 : decode cX5_ghostsOf 0 = .ok (.aload_n 0, 1) := by decide +kernel
theorem dX5_ghostsOf_1 : decode cX5_ghostsOf 1 = .ok (.iload_n 1, 1) := by decide +kernel
theorem dX5_ghostsOf_2 : decode cX5_ghostsOf 2 = .ok (.iconst 2, 1) := by decide +kernel
theorem dX5_ghostsOf_3 : decode cX5_ghostsOf 3 = .ok (.invokevirtual 123, 3) := by decide +kernel
theorem dX5_ghostsOf_6 : decode cX5_ghostsOf 6 = .ok (.ireturn, 1) := by decide +kernel
set_option maxRecDepth 20000 in
theorem ggX5_hasCollapsed_X5_isRuin : GoodIn wsX5_hasCollapsed wsX5_isRuin := goodIn_r _ [6, 7, 8, 9, 5, 10, 20, 21, 22, 23, 24, 25, 26, 27, 28, 29] (by decide +kernel) (by decide +kernel)
set_option maxRecDepth 20000 in
theorem gX5_hasCollapsed_X5_isRuin : GoodIn wsX5_hasCollapsed (wsV RX5 108 RX5 yX5_isRuin wsX5_isRuin) := goodIn_app (goodIn_of _ (by decide +kernel)) ggX5_hasCollapsed_X5_isRuin
set_option maxRecDepth 20000 in
theorem ggX5_hasCollapsed_X5_stands : GoodIn wsX5_hasCollapsed wsX5_stands := goodIn_r _ [14, 15, 16, 17, 5, 18, 19, 20, 21, 22, 23, 24, 25, 26, 27, 28, 29] (by decide +kernel) (by decide +kernel)
set_option maxRecDepth 20000 in
theorem gX5_hasCollapsed_X5_stands : GoodIn wsX5_hasCollapsed (wsV RX5 60 RX5 yX5_stands wsX5_stands) := goodIn_app (goodIn_of _ (by decide +kernel)) ggX5_hasCollapsed_X5_stands
theorem dX5_hasCollapsed_0 : decode cX5_hasCollapsed 0 = .ok (.aload_n 0, 1) := by decide +kernel
theorem dX5_hasCollapsed_1 : decode cX5_hasCollapsed 1 = .ok (.aload_n 0, 1) := by decide +kernel
theorem dX5_hasCollapsed_2 : decode cX5_hasCollapsed 2 = .ok (.iload_n 1, 1) := by decide +kernel
theorem dX5_hasCollapsed_3 : decode cX5_hasCollapsed 3 = .ok (.invokevirtual 108, 3) := by decide +kernel
theorem dX5_hasCollapsed_6 : decode cX5_hasCollapsed 6 = .ok (.ifCond .eq 7, 3) := by decide +kernel
theorem dX5_hasCollapsed_9 : decode cX5_hasCollapsed 9 = .ok (.iconst 0, 1) := by decide +kernel
theorem dX5_hasCollapsed_10 : decode cX5_hasCollapsed 10 = .ok (.goto 4, 3) := by decide +kernel
theorem dX5_hasCollapsed_13 : decode cX5_hasCollapsed 13 = .ok (.iconst 1, 1) := by decide +kernel
theorem dX5_hasCollapsed_14 : decode cX5_hasCollapsed 14 = .ok (.putfield 32, 3) := by decide +kernel
theorem dX5_hasCollapsed_17 : decode cX5_hasCollapsed 17 = .ok (.aload_n 0, 1) := by decide +kernel
theorem dX5_hasCollapsed_18 : decode cX5_hasCollapsed 18 = .ok (.getfield 32, 3) := by decide +kernel
theorem dX5_hasCollapsed_21 : decode cX5_hasCollapsed 21 = .ok (.ifCond .ne 15, 3) := by decide +kernel
theorem dX5_hasCollapsed_24 : decode cX5_hasCollapsed 24 = .ok (.aload_n 0, 1) := by decide +kernel
theorem dX5_hasCollapsed_25 : decode cX5_hasCollapsed 25 = .ok (.iload_n 1, 1) := by decide +kernel
theorem dX5_hasCollapsed_26 : decode cX5_hasCollapsed 26 = .ok (.invokevirtual 60, 3) := by decide +kernel
theorem dX5_hasCollapsed_29 : decode cX5_hasCollapsed 29 = .ok (.ifCond .ne 7, 3) := by decide +kernel
theorem dX5_hasCollapsed_32 : decode cX5_hasCollapsed 32 = .ok (.iconst 1, 1) := by decide +kernel
theorem dX5_hasCollapsed_33 : decode cX5_hasCollapsed 33 = .ok (.goto 4, 3) := by decide +kernel
theorem dX5_hasCollapsed_36 : decode cX5_hasCollapsed 36 = .ok (.iconst 0, 1) := by decide +kernel
theorem dX5_hasCollapsed_37 : decode cX5_hasCollapsed 37 = .ok (.ireturn, 1) := by decide +kernel
set_option maxRecDepth 20000 in
theorem ggX5_viewOf_X5_isRuin : GoodIn wsX5_viewOf wsX5_isRuin := goodIn_r _ [6, 7, 8, 9, 5, 10, 40, 41, 42, 43, 44, 45, 46, 47, 48, 49] (by decide +kernel) (by decide +kernel)
set_option maxRecDepth 20000 in
theorem gX5_viewOf_X5_isRuin : GoodIn wsX5_viewOf (wsV RX5 108 RX5 yX5_isRuin wsX5_isRuin) := goodIn_app (goodIn_of _ (by decide +kernel)) ggX5_viewOf_X5_isRuin
set_option maxRecDepth 20000 in
theorem ggX5_viewOf_X5_view : GoodIn wsX5_viewOf wsX5_view := goodIn_r _ [14, 15, 16, 17, 5, 18, 19, 20, 21, 22, 23, 24, 25, 26, 27, 28, 29, 30, 31, 32, 33, 34, 35, 40, 41, 42, 43, 44, 45, 46, 47, 48, 49] (by decide +kernel) (by decide +kernel)
set_option maxRecDepth 20000 in
theorem gX5_viewOf_X5_view : GoodIn wsX5_viewOf (wsV RX5 72 RX5 yX5_view wsX5_view) := goodIn_app (goodIn_of _ (by decide +kernel)) ggX5_viewOf_X5_view
set_option maxRecDepth 20000 in
theorem ggX5_viewOf_X5_fail : GoodIn wsX5_viewOf wsX5_fail := goodIn_r _ [39, 1, 40, 41, 42, 43, 44, 45, 46, 47, 48, 49] (by decide +kernel) (by decide +kernel)
set_option maxRecDepth 20000 in
theorem gX5_viewOf_X5_fail : GoodIn wsX5_viewOf (wsV RX5 105 RX5 yX5_fail wsX5_fail) := goodIn_app (goodIn_of _ (by decide +kernel)) ggX5_viewOf_X5_fail
theorem dX5_viewOf_0 : decode cX5_viewOf 0 = .ok (.aload_n 0, 1) := by decide +kernel
theorem dX5_viewOf_1 : decode cX5_viewOf 1 = .ok (.iconst 0, 1) := by decide +kernel
theorem dX5_viewOf_2 : decode cX5_viewOf 2 = .ok (.putfield 32, 3) := by decide +kernel
theorem dX5_viewOf_5 : decode cX5_viewOf 5 = .ok (.aload_n 0, 1) := by decide +kernel
theorem dX5_viewOf_6 : decode cX5_viewOf 6 = .ok (.iload_n 1, 1) := by decide +kernel
theorem dX5_viewOf_7 : decode cX5_viewOf 7 = .ok (.invokevirtual 108, 3) := by decide +kernel
theorem dX5_viewOf_10 : decode cX5_viewOf 10 = .ok (.ifCond .eq 11, 3) := by decide +kernel
theorem dX5_viewOf_13 : decode cX5_viewOf 13 = .ok (.aload_n 0, 1) := by decide +kernel
theorem dX5_viewOf_14 : decode cX5_viewOf 14 = .ok (.iload_n 1, 1) := by decide +kernel
theorem dX5_viewOf_15 : decode cX5_viewOf 15 = .ok (.invokevirtual 72, 3) := by decide +kernel
theorem dX5_viewOf_18 : decode cX5_viewOf 18 = .ok (.goto 8, 3) := by decide +kernel
theorem dX5_viewOf_21 : decode cX5_viewOf 21 = .ok (.aload_n 0, 1) := by decide +kernel
theorem dX5_viewOf_22 : decode cX5_viewOf 22 = .ok (.iconst 1, 1) := by decide +kernel
theorem dX5_viewOf_23 : decode cX5_viewOf 23 = .ok (.invokevirtual 105, 3) := by decide +kernel
theorem dX5_viewOf_26 : decode cX5_viewOf 26 = .ok (.ireturn, 1) := by decide +kernel
set_option maxRecDepth 20000 in
theorem ggX5_rankOf_X5_isRuin : GoodIn wsX5_rankOf wsX5_isRuin := goodIn_r _ [6, 7, 8, 9, 5, 10, 49, 50, 51, 52, 53, 54, 55, 56, 57, 58] (by decide +kernel) (by decide +kernel)
set_option maxRecDepth 20000 in
theorem gX5_rankOf_X5_isRuin : GoodIn wsX5_rankOf (wsV RX5 108 RX5 yX5_isRuin wsX5_isRuin) := goodIn_app (goodIn_of _ (by decide +kernel)) ggX5_rankOf_X5_isRuin
set_option maxRecDepth 20000 in
theorem ggX5_rankOf_X5_rank : GoodIn wsX5_rankOf wsX5_rank := goodIn_r _ [14, 7, 15, 16, 17, 5, 18, 19, 20, 21, 22, 23, 24, 25, 26, 27, 28, 29, 30, 31, 32, 33, 34, 35, 36, 37, 38, 39, 40, 41, 42, 43, 44, 49, 50, 51, 52, 53, 54, 55, 56, 57, 58] (by decide +kernel) (by decide +kernel)
set_option maxRecDepth 20000 in
theorem gX5_rankOf_X5_rank : GoodIn wsX5_rankOf (wsV RX5 79 RX5 yX5_rank wsX5_rank) := goodIn_app (goodIn_of _ (by decide +kernel)) ggX5_rankOf_X5_rank
set_option maxRecDepth 20000 in
theorem ggX5_rankOf_X5_fail : GoodIn wsX5_rankOf wsX5_fail := goodIn_r _ [48, 1, 49, 50, 51, 52, 53, 54, 55, 56, 57, 58] (by decide +kernel) (by decide +kernel)
set_option maxRecDepth 20000 in
theorem gX5_rankOf_X5_fail : GoodIn wsX5_rankOf (wsV RX5 105 RX5 yX5_fail wsX5_fail) := goodIn_app (goodIn_of _ (by decide +kernel)) ggX5_rankOf_X5_fail
theorem dX5_rankOf_0 : decode cX5_rankOf 0 = .ok (.aload_n 0, 1) := by decide +kernel
theorem dX5_rankOf_1 : decode cX5_rankOf 1 = .ok (.iconst 0, 1) := by decide +kernel
theorem dX5_rankOf_2 : decode cX5_rankOf 2 = .ok (.putfield 32, 3) := by decide +kernel
theorem dX5_rankOf_5 : decode cX5_rankOf 5 = .ok (.aload_n 0, 1) := by decide +kernel
theorem dX5_rankOf_6 : decode cX5_rankOf 6 = .ok (.iload_n 1, 1) := by decide +kernel
theorem dX5_rankOf_7 : decode cX5_rankOf 7 = .ok (.invokevirtual 108, 3) := by decide +kernel
theorem dX5_rankOf_10 : decode cX5_rankOf 10 = .ok (.ifCond .eq 11, 3) := by decide +kernel
theorem dX5_rankOf_13 : decode cX5_rankOf 13 = .ok (.aload_n 0, 1) := by decide +kernel
theorem dX5_rankOf_14 : decode cX5_rankOf 14 = .ok (.iload_n 1, 1) := by decide +kernel
theorem dX5_rankOf_15 : decode cX5_rankOf 15 = .ok (.invokevirtual 79, 3) := by decide +kernel
theorem dX5_rankOf_18 : decode cX5_rankOf 18 = .ok (.goto 8, 3) := by decide +kernel
theorem dX5_rankOf_21 : decode cX5_rankOf 21 = .ok (.aload_n 0, 1) := by decide +kernel
theorem dX5_rankOf_22 : decode cX5_rankOf 22 = .ok (.iconst 1, 1) := by decide +kernel
theorem dX5_rankOf_23 : decode cX5_rankOf 23 = .ok (.invokevirtual 105, 3) := by decide +kernel
theorem dX5_rankOf_26 : decode cX5_rankOf 26 = .ok (.ireturn, 1) := by decide +kernel
set_option maxRecDepth 20000 in
theorem ggX5_ruinAt_X5_fail : GoodIn wsX5_ruinAt wsX5_fail := goodIn_r _ [7, 1, 42, 43, 44, 45, 46, 47, 48, 49, 50, 51] (by decide +kernel) (by decide +kernel)
set_option maxRecDepth 20000 in
theorem gX5_ruinAt_X5_fail : GoodIn wsX5_ruinAt (wsV RX5 105 RX5 yX5_fail wsX5_fail) := goodIn_app (goodIn_of _ (by decide +kernel)) ggX5_ruinAt_X5_fail
set_option maxRecDepth 20000 in
theorem ggX5_ruinAt_X5_rank : GoodIn wsX5_ruinAt wsX5_rank := goodIn_r _ [11, 2, 12, 13, 14, 6, 15, 16, 17, 18, 19, 20, 21, 22, 23, 24, 25, 26, 27, 28, 29, 30, 31, 32, 33, 34, 35, 36, 37, 38, 39, 40, 41, 42, 43, 44, 45, 46, 47, 48, 49, 50, 51] (by decide +kernel) (by decide +kernel)
set_option maxRecDepth 20000 in
theorem gX5_ruinAt_X5_rank : GoodIn wsX5_ruinAt (wsV RX5 79 RX5 yX5_rank wsX5_rank) := goodIn_app (goodIn_of _ (by decide +kernel)) ggX5_ruinAt_X5_rank
theorem dX5_ruinAt_0 : decode cX5_ruinAt 0 = .ok (.aload_n 0, 1) := by decide +kernel
theorem dX5_ruinAt_1 : decode cX5_ruinAt 1 = .ok (.iconst 0, 1) := by decide +kernel
theorem dX5_ruinAt_2 : decode cX5_ruinAt 2 = .ok (.putfield 32, 3) := by decide +kernel
theorem dX5_ruinAt_5 : decode cX5_ruinAt 5 = .ok (.iload_n 1, 1) := by decide +kernel
theorem dX5_ruinAt_6 : decode cX5_ruinAt 6 = .ok (.ifCond .ge 9, 3) := by decide +kernel
theorem dX5_ruinAt_9 : decode cX5_ruinAt 9 = .ok (.aload_n 0, 1) := by decide +kernel
theorem dX5_ruinAt_10 : decode cX5_ruinAt 10 = .ok (.iconst 1, 1) := by decide +kernel
theorem dX5_ruinAt_11 : decode cX5_ruinAt 11 = .ok (.invokevirtual 105, 3) := by decide +kernel
theorem dX5_ruinAt_14 : decode cX5_ruinAt 14 = .ok (.ireturn, 1) := by decide +kernel
theorem dX5_ruinAt_15 : decode cX5_ruinAt 15 = .ok (.iconst 0, 1) := by decide +kernel
theorem dX5_ruinAt_16 : decode cX5_ruinAt 16 = .ok (.istore_n 2, 1) := by decide +kernel
theorem dX5_ruinAt_17 : decode cX5_ruinAt 17 = .ok (.iload_n 2, 1) := by decide +kernel
theorem dX5_ruinAt_18 : decode cX5_ruinAt 18 = .ok (.aload_n 0, 1) := by decide +kernel
theorem dX5_ruinAt_19 : decode cX5_ruinAt 19 = .ok (.getfield 35, 3) := by decide +kernel
theorem dX5_ruinAt_22 : decode cX5_ruinAt 22 = .ok (.if_icmp .ge 20, 3) := by decide +kernel
theorem dX5_ruinAt_25 : decode cX5_ruinAt 25 = .ok (.aload_n 0, 1) := by decide +kernel
theorem dX5_ruinAt_26 : decode cX5_ruinAt 26 = .ok (.iload_n 2, 1) := by decide +kernel
theorem dX5_ruinAt_27 : decode cX5_ruinAt 27 = .ok (.invokevirtual 79, 3) := by decide +kernel
theorem dX5_ruinAt_30 : decode cX5_ruinAt 30 = .ok (.iload_n 1, 1) := by decide +kernel
theorem dX5_ruinAt_31 : decode cX5_ruinAt 31 = .ok (.if_icmp .ne 5, 3) := by decide +kernel
theorem dX5_ruinAt_34 : decode cX5_ruinAt 34 = .ok (.iload_n 2, 1) := by decide +kernel
theorem dX5_ruinAt_35 : decode cX5_ruinAt 35 = .ok (.ireturn, 1) := by decide +kernel
theorem dX5_ruinAt_36 : decode cX5_ruinAt 36 = .ok (.iinc 2 1, 3) := by decide +kernel
theorem dX5_ruinAt_39 : decode cX5_ruinAt 39 = .ok (.goto (-22), 3) := by decide +kernel
theorem dX5_ruinAt_42 : decode cX5_ruinAt 42 = .ok (.aload_n 0, 1) := by decide +kernel
theorem dX5_ruinAt_43 : decode cX5_ruinAt 43 = .ok (.iconst 1, 1) := by decide +kernel
theorem dX5_ruinAt_44 : decode cX5_ruinAt 44 = .ok (.invokevirtual 105, 3) := by decide +kernel
theorem dX5_ruinAt_47 : decode cX5_ruinAt 47 = .ok (.ireturn, 1) := by decide +kernel
set_option maxRecDepth 20000 in
theorem ggX5_guestsOf_X5_isRuin : GoodIn wsX5_guestsOf wsX5_isRuin := goodIn_r _ [6, 7, 8, 9, 5, 10, 54, 55, 56, 57, 58, 59, 60, 61, 62, 63] (by decide +kernel) (by decide +kernel)
set_option maxRecDepth 20000 in
theorem gX5_guestsOf_X5_isRuin : GoodIn wsX5_guestsOf (wsV RX5 108 RX5 yX5_isRuin wsX5_isRuin) := goodIn_app (goodIn_of _ (by decide +kernel)) ggX5_guestsOf_X5_isRuin
set_option maxRecDepth 20000 in
theorem ggX5_guestsOf_X5_rank : GoodIn wsX5_guestsOf wsX5_rank := goodIn_r _ [14, 7, 15, 16, 17, 5, 18, 19, 20, 21, 22, 23, 24, 25, 26, 27, 28, 29, 30, 31, 32, 33, 34, 35, 36, 37, 38, 39, 40, 41, 42, 43, 44, 54, 55, 56, 57, 58, 59, 60, 61, 62, 63] (by decide +kernel) (by decide +kernel)
set_option maxRecDepth 20000 in
theorem gX5_guestsOf_X5_rank : GoodIn wsX5_guestsOf (wsV RX5 79 RX5 yX5_rank wsX5_rank) := goodIn_app (goodIn_of _ (by decide +kernel)) ggX5_guestsOf_X5_rank
set_option maxRecDepth 20000 in
theorem ggX5_guestsOf_X5_come : GoodIn wsX5_guestsOf wsX5_come := goodIn_r _ [48, 49, 54, 55, 56, 57, 58, 59, 60, 61, 62, 63] (by decide +kernel) (by decide +kernel)
set_option maxRecDepth 20000 in
theorem gX5_guestsOf_X5_come : GoodIn wsX5_guestsOf (wsV RX5 82 RX5 yX5_come wsX5_come) := goodIn_app (goodIn_of _ (by decide +kernel)) ggX5_guestsOf_X5_come
set_option maxRecDepth 20000 in
theorem ggX5_guestsOf_X5_fail : GoodIn wsX5_guestsOf wsX5_fail := goodIn_r _ [53, 1, 54, 55, 56, 57, 58, 59, 60, 61, 62, 63] (by decide +kernel) (by decide +kernel)
set_option maxRecDepth 20000 in
theorem gX5_guestsOf_X5_fail : GoodIn wsX5_guestsOf (wsV RX5 105 RX5 yX5_fail wsX5_fail) := goodIn_app (goodIn_of _ (by decide +kernel)) ggX5_guestsOf_X5_fail
theorem dX5_guestsOf_0 : decode cX5_guestsOf 0 = .ok (.aload_n 0, 1) := by decide +kernel
theorem dX5_guestsOf_1 : decode cX5_guestsOf 1 = .ok (.iconst 0, 1) := by decide +kernel
theorem dX5_guestsOf_2 : decode cX5_guestsOf 2 = .ok (.putfield 32, 3) := by decide +kernel
theorem dX5_guestsOf_5 : decode cX5_guestsOf 5 = .ok (.aload_n 0, 1) := by decide +kernel
theorem dX5_guestsOf_6 : decode cX5_guestsOf 6 = .ok (.iload_n 1, 1) := by decide +kernel
theorem dX5_guestsOf_7 : decode cX5_guestsOf 7 = .ok (.invokevirtual 108, 3) := by decide +kernel
theorem dX5_guestsOf_10 : decode cX5_guestsOf 10 = .ok (.ifCond .eq 15, 3) := by decide +kernel
theorem dX5_guestsOf_13 : decode cX5_guestsOf 13 = .ok (.aload_n 0, 1) := by decide +kernel
theorem dX5_guestsOf_14 : decode cX5_guestsOf 14 = .ok (.aload_n 0, 1) := by decide +kernel
theorem dX5_guestsOf_15 : decode cX5_guestsOf 15 = .ok (.iload_n 1, 1) := by decide +kernel
theorem dX5_guestsOf_16 : decode cX5_guestsOf 16 = .ok (.invokevirtual 79, 3) := by decide +kernel
theorem dX5_guestsOf_19 : decode cX5_guestsOf 19 = .ok (.invokevirtual 82, 3) := by decide +kernel
theorem dX5_guestsOf_22 : decode cX5_guestsOf 22 = .ok (.goto 8, 3) := by decide +kernel
theorem dX5_guestsOf_25 : decode cX5_guestsOf 25 = .ok (.aload_n 0, 1) := by decide +kernel
theorem dX5_guestsOf_26 : decode cX5_guestsOf 26 = .ok (.iconst 1, 1) := by decide +kernel
theorem dX5_guestsOf_27 : decode cX5_guestsOf 27 = .ok (.invokevirtual 105, 3) := by decide +kernel
theorem dX5_guestsOf_30 : decode cX5_guestsOf 30 = .ok (.ireturn, 1) := by decide +kernel
set_option maxRecDepth 20000 in
theorem ggX5_tickets_X5_told : GoodIn wsX5_tickets wsX5_told := goodIn_r _ [6, 7, 8, 9, 10, 11, 12, 13, 14, 15, 16, 17] (by decide +kernel) (by decide +kernel)
set_option maxRecDepth 20000 in
theorem gX5_tickets_X5_told : GoodIn wsX5_tickets (wsV RX5 117 RX5 yX5_told wsX5_told) := goodIn_app (goodIn_of _ (by decide +kernel)) ggX5_tickets_X5_told
theorem dX5_tickets_0 : decode cX5_tickets 0 = .ok (.aload_n 0, 1) := by decide +kernel
theorem dX5_tickets_1 : decode cX5_tickets 1 = .ok (.aload_n 0, 1) := by decide +kernel
theorem dX5_tickets_2 : decode cX5_tickets 2 = .ok (.getfield 42, 3) := by decide +kernel
theorem dX5_tickets_5 : decode cX5_tickets 5 = .ok (.invokevirtual 117, 3) := by decide +kernel
theorem dX5_tickets_8 : decode cX5_tickets 8 = .ok (.ireturn, 1) := by decide +kernel
set_option maxRecDepth 20000 in
theorem ggX5_dayOf_X5_isTicket : GoodIn wsX5_dayOf wsX5_isTicket := goodIn_r _ [7, 8, 9, 10, 6, 11, 16, 17, 18, 19, 20, 21, 22, 23, 24, 25] (by decide +kernel) (by decide +kernel)
set_option maxRecDepth 20000 in
theorem gX5_dayOf_X5_isTicket : GoodIn wsX5_dayOf (wsV RX5 126 RX5 yX5_isTicket wsX5_isTicket) := goodIn_app (goodIn_of _ (by decide +kernel)) ggX5_dayOf_X5_isTicket
set_option maxRecDepth 20000 in
theorem ggX5_dayOf_X5_fail : GoodIn wsX5_dayOf wsX5_fail := goodIn_r _ [15, 1, 16, 17, 18, 19, 20, 21, 22, 23, 24, 25] (by decide +kernel) (by decide +kernel)
set_option maxRecDepth 20000 in
theorem gX5_dayOf_X5_fail : GoodIn wsX5_dayOf (wsV RX5 105 RX5 yX5_fail wsX5_fail) := goodIn_app (goodIn_of _ (by decide +kernel)) ggX5_dayOf_X5_fail
theorem dX5_dayOf_0 : decode cX5_dayOf 0 = .ok (.aload_n 0, 1) := by decide +kernel
theorem dX5_dayOf_1 : decode cX5_dayOf 1 = .ok (.iconst 0, 1) := by decide +kernel
theorem dX5_dayOf_2 : decode cX5_dayOf 2 = .ok (.putfield 32, 3) := by decide +kernel
theorem dX5_dayOf_5 : decode cX5_dayOf 5 = .ok (.aload_n 0, 1) := by decide +kernel
theorem dX5_dayOf_6 : decode cX5_dayOf 6 = .ok (.iload_n 1, 1) := by decide +kernel
theorem dX5_dayOf_7 : decode cX5_dayOf 7 = .ok (.invokevirtual 126, 3) := by decide +kernel
theorem dX5_dayOf_10 : decode cX5_dayOf 10 = .ok (.ifCond .eq 12, 3) := by decide +kernel
theorem dX5_dayOf_13 : decode cX5_dayOf 13 = .ok (.aload_n 0, 1) := by decide +kernel
theorem dX5_dayOf_14 : decode cX5_dayOf 14 = .ok (.getfield 20, 3) := by decide +kernel
theorem dX5_dayOf_17 : decode cX5_dayOf 17 = .ok (.iload_n 1, 1) := by decide +kernel
theorem dX5_dayOf_18 : decode cX5_dayOf 18 = .ok (.iaload, 1) := by decide +kernel
theorem dX5_dayOf_19 : decode cX5_dayOf 19 = .ok (.goto 8, 3) := by decide +kernel
theorem dX5_dayOf_22 : decode cX5_dayOf 22 = .ok (.aload_n 0, 1) := by decide +kernel
theorem dX5_dayOf_23 : decode cX5_dayOf 23 = .ok (.iconst 1, 1) := by decide +kernel
theorem dX5_dayOf_24 : decode cX5_dayOf 24 = .ok (.invokevirtual 105, 3) := by decide +kernel
theorem dX5_dayOf_27 : decode cX5_dayOf 27 = .ok (.ireturn, 1) := by decide +kernel
set_option maxRecDepth 20000 in
theorem ggX5_is_X5_isTicket : GoodIn wsX5_is wsX5_isTicket := goodIn_r _ [7, 8, 9, 10, 6, 11, 12, 13, 14, 15, 16, 17, 18, 19, 20, 21] (by decide +kernel) (by decide +kernel)
set_option maxRecDepth 20000 in
theorem gX5_is_X5_isTicket : GoodIn wsX5_is (wsV RX5 126 RX5 yX5_isTicket wsX5_isTicket) := goodIn_app (goodIn_of _ (by decide +kernel)) ggX5_is_X5_isTicket
theorem dX5_is_0 : decode cX5_is 0 = .ok (.aload_n 0, 1) := by decide +kernel
theorem dX5_is_1 : decode cX5_is 1 = .ok (.aload_n 0, 1) := by decide +kernel
theorem dX5_is_2 : decode cX5_is 2 = .ok (.iload_n 1, 1) := by decide +kernel
theorem dX5_is_3 : decode cX5_is 3 = .ok (.invokevirtual 126, 3) := by decide +kernel
theorem dX5_is_6 : decode cX5_is 6 = .ok (.ifCond .eq 7, 3) := by decide +kernel
theorem dX5_is_9 : decode cX5_is 9 = .ok (.iconst 0, 1) := by decide +kernel
theorem dX5_is_10 : decode cX5_is 10 = .ok (.goto 4, 3) := by decide +kernel
theorem dX5_is_13 : decode cX5_is 13 = .ok (.iconst 1, 1) := by decide +kernel
theorem dX5_is_14 : decode cX5_is 14 = .ok (.putfield 32, 3) := by decide +kernel
theorem dX5_is_17 : decode cX5_is 17 = .ok (.aload_n 0, 1) := by decide +kernel
theorem dX5_is_18 : decode cX5_is 18 = .ok (.getfield 32, 3) := by decide +kernel
theorem dX5_is_21 : decode cX5_is 21 = .ok (.ifCond .ne 20, 3) := by decide +kernel
theorem dX5_is_24 : decode cX5_is 24 = .ok (.aload_n 0, 1) := by decide +kernel
theorem dX5_is_25 : decode cX5_is 25 = .ok (.getfield 26, 3) := by decide +kernel
theorem dX5_is_28 : decode cX5_is 28 = .ok (.bipush 32, 2) := by decide +kernel
theorem dX5_is_30 : decode cX5_is 30 = .ok (.iload_n 1, 1) := by decide +kernel
theorem dX5_is_31 : decode cX5_is 31 = .ok (.iadd, 1) := by decide +kernel
theorem dX5_is_32 : decode cX5_is 32 = .ok (.iaload, 1) := by decide +kernel
theorem dX5_is_33 : decode cX5_is 33 = .ok (.iload_n 2, 1) := by decide +kernel
theorem dX5_is_34 : decode cX5_is 34 = .ok (.if_icmp .ne 7, 3) := by decide +kernel
theorem dX5_is_37 : decode cX5_is 37 = .ok (.iconst 1, 1) := by decide +kernel
theorem dX5_is_38 : decode cX5_is 38 = .ok (.goto 4, 3) := by decide +kernel
theorem dX5_is_41 : decode cX5_is 41 = .ok (.iconst 0, 1) := by decide +kernel
theorem dX5_is_42 : decode cX5_is 42 = .ok (.ireturn, 1) := by decide +kernel
set_option maxRecDepth 20000 in
theorem ggX5_isOpen_X5_is : GoodIn wsX5_isOpen wsX5_is := goodIn_r _ [5, 6, 7, 8, 9, 10, 4, 11, 12, 13, 14, 15, 16, 17, 18, 19, 20, 21, 22, 23, 24, 25] (by decide +kernel) (by decide +kernel)
set_option maxRecDepth 20000 in
theorem gX5_isOpen_X5_is : GoodIn wsX5_isOpen (wsV RX5 129 RX5 yX5_is wsX5_is) := goodIn_app (goodIn_of _ (by decide +kernel)) ggX5_isOpen_X5_is
theorem dX5_isOpen_0 : decode cX5_isOpen 0 = .ok (.aload_n 0, 1) := by decide +kernel
theorem dX5_isOpen_1 : decode cX5_isOpen 1 = .ok (.iload_n 1, 1) := by decide +kernel
theorem dX5_isOpen_2 : decode cX5_isOpen 2 = .ok (.iconst 0, 1) := by decide +kernel
theorem dX5_isOpen_3 : decode cX5_isOpen 3 = .ok (.invokevirtual 129, 3) := by decide +kernel
theorem dX5_isOpen_6 : decode cX5_isOpen 6 = .ok (.ireturn, 1) := by decide +kernel
set_option maxRecDepth 20000 in
theorem ggX5_isPaidBack_X5_is : GoodIn wsX5_isPaidBack wsX5_is := goodIn_r _ [5, 6, 7, 8, 9, 10, 4, 11, 12, 13, 14, 15, 16, 17, 18, 19, 20, 21, 22, 23, 24, 25] (by decide +kernel) (by decide +kernel)
set_option maxRecDepth 20000 in
theorem gX5_isPaidBack_X5_is : GoodIn wsX5_isPaidBack (wsV RX5 129 RX5 yX5_is wsX5_is) := goodIn_app (goodIn_of _ (by decide +kernel)) ggX5_isPaidBack_X5_is
theorem dX5_isPaidBack_0 : decode cX5_isPaidBack 0 = .ok (.aload_n 0, 1) := by decide +kernel
theorem dX5_isPaidBack_1 : decode cX5_isPaidBack 1 = .ok (.iload_n 1, 1) := by decide +kernel
theorem dX5_isPaidBack_2 : decode cX5_isPaidBack 2 = .ok (.iconst 2, 1) := by decide +kernel
theorem dX5_isPaidBack_3 : decode cX5_isPaidBack 3 = .ok (.invokevirtual 129, 3) := by decide +kernel
theorem dX5_isPaidBack_6 : decode cX5_isPaidBack 6 = .ok (.ireturn, 1) := by decide +kernel
set_option maxRecDepth 20000 in
theorem ggX5_viewIn_X5_isRuin : GoodIn wsX5_viewIn wsX5_isRuin := goodIn_r _ [6, 7, 8, 9, 5, 10, 99, 100, 101, 102, 103, 104, 105, 106, 107, 108] (by decide +kernel) (by decide +kernel)
set_option maxRecDepth 20000 in
theorem gX5_viewIn_X5_isRuin : GoodIn wsX5_viewIn (wsV RX5 108 RX5 yX5_isRuin wsX5_isRuin) := goodIn_app (goodIn_of _ (by decide +kernel)) ggX5_viewIn_X5_isRuin
set_option maxRecDepth 20000 in
theorem ggX5_viewIn_X5_fail : GoodIn wsX5_viewIn wsX5_fail := goodIn_r _ [14, 1, 99, 100, 101, 102, 103, 104, 105, 106, 107, 108] (by decide +kernel) (by decide +kernel)
set_option maxRecDepth 20000 in
theorem gX5_viewIn_X5_fail : GoodIn wsX5_viewIn (wsV RX5 105 RX5 yX5_fail wsX5_fail) := goodIn_app (goodIn_of _ (by decide +kernel)) ggX5_viewIn_X5_fail
set_option maxRecDepth 20000 in
theorem ggX5_viewIn_X5_isIn : GoodIn wsX5_viewIn wsX5_isIn := goodIn_r _ [10] (by decide +kernel) (by decide +kernel)
set_option maxRecDepth 20000 in
theorem gX5_viewIn_X5_isIn : GoodIn wsX5_viewIn (va_wsS RX5 38 yX5_isIn wsX5_isIn) := goodIn_app (goodIn_of _ (by decide +kernel)) ggX5_viewIn_X5_isIn
set_option maxRecDepth 20000 in
theorem ggX5_viewIn_X5_keep : GoodIn wsX5_viewIn wsX5_keep := goodIn_r _ [18, 19, 20, 21, 22, 23, 24, 99, 100, 101, 102, 103, 104, 105, 106, 107, 108] (by decide +kernel) (by decide +kernel)
set_option maxRecDepth 20000 in
theorem gX5_viewIn_X5_keep : GoodIn wsX5_viewIn (wsV RX5 132 RX5 yX5_keep wsX5_keep) := goodIn_app (goodIn_of _ (by decide +kernel)) ggX5_viewIn_X5_keep
set_option maxRecDepth 20000 in
theorem ggX5_viewIn_X5_daysOn : GoodIn wsX5_viewIn wsX5_daysOn := goodIn_r _ [28, 29, 30, 31, 5, 32, 7, 19, 33, 34, 35, 36, 37, 38, 39, 40, 41, 42, 43, 44, 45, 46, 47, 48, 49, 50, 51, 52, 53, 54, 55, 56, 57, 58, 59, 60, 61, 62, 63, 64, 65, 66, 67, 68, 69, 70, 71, 72, 73, 74, 75, 76, 77, 78, 79, 80, 81, 82, 83, 84, 85, 86, 87, 88, 89, 90, 91, 92, 93, 94, 99, 100, 101, 102, 103, 104, 105, 106, 107, 108] (by decide +kernel) (by decide +kernel)
set_option maxRecDepth 20000 in
theorem gX5_viewIn_X5_daysOn : GoodIn wsX5_viewIn (wsV RX5 114 RX5 yX5_daysOn wsX5_daysOn) := goodIn_app (goodIn_of _ (by decide +kernel)) ggX5_viewIn_X5_daysOn
set_option maxRecDepth 20000 in
theorem ggX5_viewIn_X5_view : GoodIn wsX5_viewIn wsX5_view := goodIn_r _ [57, 42, 43, 44, 5, 45, 46, 47, 48, 49, 19, 58, 59, 60, 61, 62, 63, 64, 65, 66, 67, 68, 69, 99, 100, 101, 102, 103, 104, 105, 106, 107, 108] (by decide +kernel) (by decide +kernel)
set_option maxRecDepth 20000 in
theorem gX5_viewIn_X5_view : GoodIn wsX5_viewIn (wsV RX5 72 RX5 yX5_view wsX5_view) := goodIn_app (goodIn_of _ (by decide +kernel)) ggX5_viewIn_X5_view
set_option maxRecDepth 20000 in
theorem ggX5_viewIn_X5_bringBack : GoodIn wsX5_viewIn wsX5_bringBack := goodIn_r _ [98, 20, 19, 21, 22, 23, 24, 99, 100, 101, 102, 103, 104, 105, 106, 107, 108] (by decide +kernel) (by decide +kernel)
set_option maxRecDepth 20000 in
theorem gX5_viewIn_X5_bringBack : GoodIn wsX5_viewIn (wsV RX5 135 RX5 yX5_bringBack wsX5_bringBack) := goodIn_app (goodIn_of _ (by decide +kernel)) ggX5_viewIn_X5_bringBack
theorem dX5_viewIn_0 : decode cX5_viewIn 0 = .ok (.aload_n 0, 1) := by decide +kernel
theorem dX5_viewIn_1 : decode cX5_viewIn 1 = .ok (.iconst 0, 1) := by decide +kernel
theorem dX5_viewIn_2 : decode cX5_viewIn 2 = .ok (.putfield 32, 3) := by decide +kernel
theorem dX5_viewIn_5 : decode cX5_viewIn 5 = .ok (.aload_n 0, 1) := by decide +kernel
theorem dX5_viewIn_6 : decode cX5_viewIn 6 = .ok (.iload_n 1, 1) := by decide +kernel
theorem dX5_viewIn_7 : decode cX5_viewIn 7 = .ok (.invokevirtual 108, 3) := by decide +kernel
theorem dX5_viewIn_10 : decode cX5_viewIn 10 = .ok (.ifCond .ne 9, 3) := by decide +kernel
theorem dX5_viewIn_13 : decode cX5_viewIn 13 = .ok (.aload_n 0, 1) := by decide +kernel
theorem dX5_viewIn_14 : decode cX5_viewIn 14 = .ok (.iconst 1, 1) := by decide +kernel
theorem dX5_viewIn_15 : decode cX5_viewIn 15 = .ok (.invokevirtual 105, 3) := by decide +kernel
theorem dX5_viewIn_18 : decode cX5_viewIn 18 = .ok (.ireturn, 1) := by decide +kernel
theorem dX5_viewIn_19 : decode cX5_viewIn 19 = .ok (.iload_n 2, 1) := by decide +kernel
theorem dX5_viewIn_20 : decode cX5_viewIn 20 = .ok (.iconst 1, 1) := by decide +kernel
theorem dX5_viewIn_21 : decode cX5_viewIn 21 = .ok (.bipush 60, 2) := by decide +kernel
theorem dX5_viewIn_23 : decode cX5_viewIn 23 = .ok (.invokestatic 38, 3) := by decide +kernel
theorem dX5_viewIn_26 : decode cX5_viewIn 26 = .ok (.ifCond .ne 9, 3) := by decide +kernel
theorem dX5_viewIn_29 : decode cX5_viewIn 29 = .ok (.aload_n 0, 1) := by decide +kernel
theorem dX5_viewIn_30 : decode cX5_viewIn 30 = .ok (.iconst 2, 1) := by decide +kernel
theorem dX5_viewIn_31 : decode cX5_viewIn 31 = .ok (.invokevirtual 105, 3) := by decide +kernel
theorem dX5_viewIn_34 : decode cX5_viewIn 34 = .ok (.ireturn, 1) := by decide +kernel
theorem dX5_viewIn_35 : decode cX5_viewIn 35 = .ok (.aload_n 0, 1) := by decide +kernel
theorem dX5_viewIn_36 : decode cX5_viewIn 36 = .ok (.invokevirtual 132, 3) := by decide +kernel
theorem dX5_viewIn_39 : decode cX5_viewIn 39 = .ok (.aload_n 0, 1) := by decide +kernel
theorem dX5_viewIn_40 : decode cX5_viewIn 40 = .ok (.iload_n 2, 1) := by decide +kernel
theorem dX5_viewIn_41 : decode cX5_viewIn 41 = .ok (.invokevirtual 114, 3) := by decide +kernel
theorem dX5_viewIn_44 : decode cX5_viewIn 44 = .ok (.aload_n 0, 1) := by decide +kernel
theorem dX5_viewIn_45 : decode cX5_viewIn 45 = .ok (.iload_n 1, 1) := by decide +kernel
theorem dX5_viewIn_46 : decode cX5_viewIn 46 = .ok (.invokevirtual 72, 3) := by decide +kernel
theorem dX5_viewIn_49 : decode cX5_viewIn 49 = .ok (.istore_n 3, 1) := by decide +kernel
theorem dX5_viewIn_50 : decode cX5_viewIn 50 = .ok (.aload_n 0, 1) := by decide +kernel
theorem dX5_viewIn_51 : decode cX5_viewIn 51 = .ok (.invokevirtual 135, 3) := by decide +kernel
theorem dX5_viewIn_54 : decode cX5_viewIn 54 = .ok (.iload_n 3, 1) := by decide +kernel
theorem dX5_viewIn_55 : decode cX5_viewIn 55 = .ok (.ireturn, 1) := by decide +kernel
set_option maxRecDepth 20000 in
theorem ggX5_until_X5_keep : GoodIn wsX5_until wsX5_keep := goodIn_r _ [5, 6, 7, 8, 9, 10, 11, 83, 84, 85, 86, 87, 88, 89, 90, 91, 92] (by decide +kernel) (by decide +kernel)
set_option maxRecDepth 20000 in
theorem gX5_until_X5_keep : GoodIn wsX5_until (wsV RX5 132 RX5 yX5_keep wsX5_keep) := goodIn_app (goodIn_of _ (by decide +kernel)) ggX5_until_X5_keep
set_option maxRecDepth 20000 in
theorem ggX5_until_X5_stands : GoodIn wsX5_until wsX5_stands := goodIn_r _ [15, 16, 17, 18, 4, 19, 6, 83, 84, 85, 86, 87, 88, 89, 90, 91, 92] (by decide +kernel) (by decide +kernel)
set_option maxRecDepth 20000 in
theorem gX5_until_X5_stands : GoodIn wsX5_until (wsV RX5 60 RX5 yX5_stands wsX5_stands) := goodIn_app (goodIn_of _ (by decide +kernel)) ggX5_until_X5_stands
set_option maxRecDepth 20000 in
theorem ggX5_until_X5_rank : GoodIn wsX5_until wsX5_rank := goodIn_r _ [23, 24, 12, 13, 14, 4, 15, 16, 17, 18, 19, 6, 25, 26, 27, 28, 29, 30, 31, 32, 33, 34, 35, 36, 37, 38, 39, 40, 41, 42, 43, 44, 45, 83, 84, 85, 86, 87, 88, 89, 90, 91, 92] (by decide +kernel) (by decide +kernel)
set_option maxRecDepth 20000 in
theorem gX5_until_X5_rank : GoodIn wsX5_until (wsV RX5 79 RX5 yX5_rank wsX5_rank) := goodIn_app (goodIn_of _ (by decide +kernel)) ggX5_until_X5_rank
set_option maxRecDepth 20000 in
theorem ggX5_until_X5_dayOn : GoodIn wsX5_until wsX5_dayOn := goodIn_r _ [49, 24, 6, 50, 51, 52, 4, 53, 29, 20, 21, 22, 23, 12, 13, 14, 15, 16, 17, 18, 19, 25, 26, 27, 28, 30, 31, 32, 33, 34, 35, 36, 37, 38, 39, 40, 41, 42, 43, 44, 45, 54, 55, 56, 57, 58, 59, 60, 61, 62, 63, 64, 65, 66, 67, 68, 69, 70, 71, 72, 73, 74, 75, 76, 77, 78, 83, 84, 85, 86, 87, 88, 89, 90, 91, 92] (by decide +kernel) (by decide +kernel)
set_option maxRecDepth 20000 in
theorem gX5_until_X5_dayOn : GoodIn wsX5_until (wsV RX5 102 RX5 yX5_dayOn wsX5_dayOn) := goodIn_app (goodIn_of _ (by decide +kernel)) ggX5_until_X5_dayOn
set_option maxRecDepth 20000 in
theorem ggX5_until_X5_bringBack : GoodIn wsX5_until wsX5_bringBack := goodIn_r _ [82, 7, 6, 8, 9, 10, 11, 83, 84, 85, 86, 87, 88, 89, 90, 91, 92] (by decide +kernel) (by decide +kernel)
set_option maxRecDepth 20000 in
theorem gX5_until_X5_bringBack : GoodIn wsX5_until (wsV RX5 135 RX5 yX5_bringBack wsX5_bringBack) := goodIn_app (goodIn_of _ (by decide +kernel)) ggX5_until_X5_bringBack
theorem dX5_until_0 : decode cX5_until 0 = .ok (.aload_n 0, 1) := by decide +kernel
theorem dX5_until_1 : decode cX5_until 1 = .ok (.invokevirtual 132, 3) := by decide +kernel
theorem dX5_until_4 : decode cX5_until 4 = .ok (.iconst 0, 1) := by decide +kernel
theorem dX5_until_5 : decode cX5_until 5 = .ok (.istore_n 3, 1) := by decide +kernel
theorem dX5_until_6 : decode cX5_until 6 = .ok (.iload_n 3, 1) := by decide +kernel
theorem dX5_until_7 : decode cX5_until 7 = .ok (.bipush 100, 2) := by decide +kernel
theorem dX5_until_9 : decode cX5_until 9 = .ok (.if_icmp .gt 36, 3) := by decide +kernel
theorem dX5_until_12 : decode cX5_until 12 = .ok (.iload_n 2, 1) := by decide +kernel
theorem dX5_until_13 : decode cX5_until 13 = .ok (.ifCond .eq 14, 3) := by decide +kernel
theorem dX5_until_16 : decode cX5_until 16 = .ok (.aload_n 0, 1) := by decide +kernel
theorem dX5_until_17 : decode cX5_until 17 = .ok (.iload_n 1, 1) := by decide +kernel
theorem dX5_until_18 : decode cX5_until 18 = .ok (.invokevirtual 60, 3) := by decide +kernel
theorem dX5_until_21 : decode cX5_until 21 = .ok (.ifCond .ne 14, 3) := by decide +kernel
theorem dX5_until_24 : decode cX5_until 24 = .ok (.goto 21, 3) := by decide +kernel
theorem dX5_until_27 : decode cX5_until 27 = .ok (.aload_n 0, 1) := by decide +kernel
theorem dX5_until_28 : decode cX5_until 28 = .ok (.iload_n 1, 1) := by decide +kernel
theorem dX5_until_29 : decode cX5_until 29 = .ok (.invokevirtual 79, 3) := by decide +kernel
theorem dX5_until_32 : decode cX5_until 32 = .ok (.ifCond .eq 13, 3) := by decide +kernel
theorem dX5_until_35 : decode cX5_until 35 = .ok (.aload_n 0, 1) := by decide +kernel
theorem dX5_until_36 : decode cX5_until 36 = .ok (.invokevirtual 102, 3) := by decide +kernel
theorem dX5_until_39 : decode cX5_until 39 = .ok (.iinc 3 1, 3) := by decide +kernel
theorem dX5_until_42 : decode cX5_until 42 = .ok (.goto (-36), 3) := by decide +kernel
theorem dX5_until_45 : decode cX5_until 45 = .ok (.aload_n 0, 1) := by decide +kernel
theorem dX5_until_46 : decode cX5_until 46 = .ok (.invokevirtual 135, 3) := by decide +kernel
theorem dX5_until_49 : decode cX5_until 49 = .ok (.iload_n 3, 1) := by decide +kernel
theorem dX5_until_50 : decode cX5_until 50 = .ok (.bipush 100, 2) := by decide +kernel
theorem dX5_until_52 : decode cX5_until 52 = .ok (.if_icmp .le 7, 3) := by decide +kernel
theorem dX5_until_55 : decode cX5_until 55 = .ok (.iconst (-1), 1) := by decide +kernel
theorem dX5_until_56 : decode cX5_until 56 = .ok (.goto 4, 3) := by decide +kernel
theorem dX5_until_59 : decode cX5_until 59 = .ok (.iload_n 3, 1) := by decide +kernel
theorem dX5_until_60 : decode cX5_until 60 = .ok (.ireturn, 1) := by decide +kernel
set_option maxRecDepth 20000 in
theorem ggX5_daysUntilCollapse_X5_isRuin : GoodIn wsX5_daysUntilCollapse wsX5_isRuin := goodIn_r _ [6, 7, 8, 9, 5, 10, 99, 100, 101, 102, 103, 104, 105, 106, 107, 108] (by decide +kernel) (by decide +kernel)
set_option maxRecDepth 20000 in
theorem gX5_daysUntilCollapse_X5_isRuin : GoodIn wsX5_daysUntilCollapse (wsV RX5 108 RX5 yX5_isRuin wsX5_isRuin) := goodIn_app (goodIn_of _ (by decide +kernel)) ggX5_daysUntilCollapse_X5_isRuin
set_option maxRecDepth 20000 in
theorem ggX5_daysUntilCollapse_X5_until : GoodIn wsX5_daysUntilCollapse wsX5_until := goodIn_r _ [14, 15, 16, 17, 5, 18, 19, 20, 21, 22, 23, 24, 25, 26, 27, 28, 29, 30, 31, 32, 33, 34, 35, 36, 7, 37, 38, 39, 40, 41, 42, 43, 44, 45, 46, 47, 48, 49, 50, 51, 52, 53, 54, 55, 56, 57, 58, 59, 60, 61, 62, 63, 64, 65, 66, 67, 68, 69, 70, 71, 72, 73, 74, 75, 76, 77, 78, 79, 80, 81, 82, 83, 84, 85, 86, 87, 88, 89, 90, 91, 92, 93, 94, 99, 100, 101, 102, 103, 104, 105, 106, 107, 108] (by decide +kernel) (by decide +kernel)
set_option maxRecDepth 20000 in
theorem gX5_daysUntilCollapse_X5_until : GoodIn wsX5_daysUntilCollapse (wsV RX5 138 RX5 yX5_until wsX5_until) := goodIn_app (goodIn_of _ (by decide +kernel)) ggX5_daysUntilCollapse_X5_until
set_option maxRecDepth 20000 in
theorem ggX5_daysUntilCollapse_X5_fail : GoodIn wsX5_daysUntilCollapse wsX5_fail := goodIn_r _ [98, 1, 99, 100, 101, 102, 103, 104, 105, 106, 107, 108] (by decide +kernel) (by decide +kernel)
set_option maxRecDepth 20000 in
theorem gX5_daysUntilCollapse_X5_fail : GoodIn wsX5_daysUntilCollapse (wsV RX5 105 RX5 yX5_fail wsX5_fail) := goodIn_app (goodIn_of _ (by decide +kernel)) ggX5_daysUntilCollapse_X5_fail
theorem dX5_daysUntilCollapse_0 : decode cX5_daysUntilCollapse 0 = .ok (.aload_n 0, 1) := by decide +kernel
theorem dX5_daysUntilCollapse_1 : decode cX5_daysUntilCollapse 1 = .ok (.iconst 0, 1) := by decide +kernel
theorem dX5_daysUntilCollapse_2 : decode cX5_daysUntilCollapse 2 = .ok (.putfield 32, 3) := by decide +kernel
theorem dX5_daysUntilCollapse_5 : decode cX5_daysUntilCollapse 5 = .ok (.aload_n 0, 1) := by decide +kernel
theorem dX5_daysUntilCollapse_6 : decode cX5_daysUntilCollapse 6 = .ok (.iload_n 1, 1) := by decide +kernel
theorem dX5_daysUntilCollapse_7 : decode cX5_daysUntilCollapse 7 = .ok (.invokevirtual 108, 3) := by decide +kernel
theorem dX5_daysUntilCollapse_10 : decode cX5_daysUntilCollapse 10 = .ok (.ifCond .eq 12, 3) := by decide +kernel
theorem dX5_daysUntilCollapse_13 : decode cX5_daysUntilCollapse 13 = .ok (.aload_n 0, 1) := by decide +kernel
theorem dX5_daysUntilCollapse_14 : decode cX5_daysUntilCollapse 14 = .ok (.iload_n 1, 1) := by decide +kernel
theorem dX5_daysUntilCollapse_15 : decode cX5_daysUntilCollapse 15 = .ok (.iconst 1, 1) := by decide +kernel
theorem dX5_daysUntilCollapse_16 : decode cX5_daysUntilCollapse 16 = .ok (.invokevirtual 138, 3) := by decide +kernel
theorem dX5_daysUntilCollapse_19 : decode cX5_daysUntilCollapse 19 = .ok (.goto 8, 3) := by decide +kernel
theorem dX5_daysUntilCollapse_22 : decode cX5_daysUntilCollapse 22 = .ok (.aload_n 0, 1) := by decide +kernel
theorem dX5_daysUntilCollapse_23 : decode cX5_daysUntilCollapse 23 = .ok (.iconst 1, 1) := by decide +kernel
theorem dX5_daysUntilCollapse_24 : decode cX5_daysUntilCollapse 24 = .ok (.invokevirtual 105, 3) := by decide +kernel
theorem dX5_daysUntilCollapse_27 : decode cX5_daysUntilCollapse 27 = .ok (.ireturn, 1) := by decide +kernel
set_option maxRecDepth 20000 in
theorem ggX5_daysUntilFirst_X5_isRuin : GoodIn wsX5_daysUntilFirst wsX5_isRuin := goodIn_r _ [6, 7, 8, 9, 5, 10, 99, 100, 101, 102, 103, 104, 105, 106, 107, 108] (by decide +kernel) (by decide +kernel)
set_option maxRecDepth 20000 in
theorem gX5_daysUntilFirst_X5_isRuin : GoodIn wsX5_daysUntilFirst (wsV RX5 108 RX5 yX5_isRuin wsX5_isRuin) := goodIn_app (goodIn_of _ (by decide +kernel)) ggX5_daysUntilFirst_X5_isRuin
set_option maxRecDepth 20000 in
theorem ggX5_daysUntilFirst_X5_until : GoodIn wsX5_daysUntilFirst wsX5_until := goodIn_r _ [14, 15, 16, 17, 5, 18, 19, 20, 21, 22, 23, 24, 25, 26, 27, 28, 29, 30, 31, 32, 33, 34, 35, 36, 7, 37, 38, 39, 40, 41, 42, 43, 44, 45, 46, 47, 48, 49, 50, 51, 52, 53, 54, 55, 56, 57, 58, 59, 60, 61, 62, 63, 64, 65, 66, 67, 68, 69, 70, 71, 72, 73, 74, 75, 76, 77, 78, 79, 80, 81, 82, 83, 84, 85, 86, 87, 88, 89, 90, 91, 92, 93, 94, 99, 100, 101, 102, 103, 104, 105, 106, 107, 108] (by decide +kernel) (by decide +kernel)
set_option maxRecDepth 20000 in
theorem gX5_daysUntilFirst_X5_until : GoodIn wsX5_daysUntilFirst (wsV RX5 138 RX5 yX5_until wsX5_until) := goodIn_app (goodIn_of _ (by decide +kernel)) ggX5_daysUntilFirst_X5_until
set_option maxRecDepth 20000 in
theorem ggX5_daysUntilFirst_X5_fail : GoodIn wsX5_daysUntilFirst wsX5_fail := goodIn_r _ [98, 1, 99, 100, 101, 102, 103, 104, 105, 106, 107, 108] (by decide +kernel) (by decide +kernel)
set_option maxRecDepth 20000 in
theorem gX5_daysUntilFirst_X5_fail : GoodIn wsX5_daysUntilFirst (wsV RX5 105 RX5 yX5_fail wsX5_fail) := goodIn_app (goodIn_of _ (by decide +kernel)) ggX5_daysUntilFirst_X5_fail
theorem dX5_daysUntilFirst_0 : decode cX5_daysUntilFirst 0 = .ok (.aload_n 0, 1) := by decide +kernel
theorem dX5_daysUntilFirst_1 : decode cX5_daysUntilFirst 1 = .ok (.iconst 0, 1) := by decide +kernel
theorem dX5_daysUntilFirst_2 : decode cX5_daysUntilFirst 2 = .ok (.putfield 32, 3) := by decide +kernel
theorem dX5_daysUntilFirst_5 : decode cX5_daysUntilFirst 5 = .ok (.aload_n 0, 1) := by decide +kernel
theorem dX5_daysUntilFirst_6 : decode cX5_daysUntilFirst 6 = .ok (.iload_n 1, 1) := by decide +kernel
theorem dX5_daysUntilFirst_7 : decode cX5_daysUntilFirst 7 = .ok (.invokevirtual 108, 3) := by decide +kernel
theorem dX5_daysUntilFirst_10 : decode cX5_daysUntilFirst 10 = .ok (.ifCond .eq 12, 3) := by decide +kernel
theorem dX5_daysUntilFirst_13 : decode cX5_daysUntilFirst 13 = .ok (.aload_n 0, 1) := by decide +kernel
theorem dX5_daysUntilFirst_14 : decode cX5_daysUntilFirst 14 = .ok (.iload_n 1, 1) := by decide +kernel
theorem dX5_daysUntilFirst_15 : decode cX5_daysUntilFirst 15 = .ok (.iconst 0, 1) := by decide +kernel
theorem dX5_daysUntilFirst_16 : decode cX5_daysUntilFirst 16 = .ok (.invokevirtual 138, 3) := by decide +kernel
theorem dX5_daysUntilFirst_19 : decode cX5_daysUntilFirst 19 = .ok (.goto 8, 3) := by decide +kernel
theorem dX5_daysUntilFirst_22 : decode cX5_daysUntilFirst 22 = .ok (.aload_n 0, 1) := by decide +kernel
theorem dX5_daysUntilFirst_23 : decode cX5_daysUntilFirst 23 = .ok (.iconst 1, 1) := by decide +kernel
theorem dX5_daysUntilFirst_24 : decode cX5_daysUntilFirst 24 = .ok (.invokevirtual 105, 3) := by decide +kernel
theorem dX5_daysUntilFirst_27 : decode cX5_daysUntilFirst 27 = .ok (.ireturn, 1) := by decide +kernel
set_option maxRecDepth 20000 in
theorem ggX5_bestCut_X5_isRuin : GoodIn wsX5_bestCut wsX5_isRuin := goodIn_r _ [10, 11, 12, 13, 9, 14, 102, 103, 104, 105, 106, 107, 108, 109, 110, 111] (by decide +kernel) (by decide +kernel)
set_option maxRecDepth 20000 in
theorem gX5_bestCut_X5_isRuin : GoodIn wsX5_bestCut (wsV RX5 108 RX5 yX5_isRuin wsX5_isRuin) := goodIn_app (goodIn_of _ (by decide +kernel)) ggX5_bestCut_X5_isRuin
set_option maxRecDepth 20000 in
theorem ggX5_bestCut_X5_fail : GoodIn wsX5_bestCut wsX5_fail := goodIn_r _ [18, 1, 102, 103, 104, 105, 106, 107, 108, 109, 110, 111] (by decide +kernel) (by decide +kernel)
set_option maxRecDepth 20000 in
theorem gX5_bestCut_X5_fail : GoodIn wsX5_bestCut (wsV RX5 105 RX5 yX5_fail wsX5_fail) := goodIn_app (goodIn_of _ (by decide +kernel)) ggX5_bestCut_X5_fail
set_option maxRecDepth 20000 in
theorem ggX5_bestCut_X5_keep : GoodIn wsX5_bestCut wsX5_keep := goodIn_r _ [22, 23, 24, 25, 26, 27, 28, 102, 103, 104, 105, 106, 107, 108, 109, 110, 111] (by decide +kernel) (by decide +kernel)
set_option maxRecDepth 20000 in
theorem gX5_bestCut_X5_keep : GoodIn wsX5_bestCut (wsV RX5 132 RX5 yX5_keep wsX5_keep) := goodIn_app (goodIn_of _ (by decide +kernel)) ggX5_bestCut_X5_keep
set_option maxRecDepth 20000 in
theorem ggX5_bestCut_X5_ru : GoodIn wsX5_bestCut wsX5_ru := goodIn_r _ [32, 23, 102, 103, 104, 105, 106, 107, 108, 109, 110, 111] (by decide +kernel) (by decide +kernel)
set_option maxRecDepth 20000 in
theorem gX5_bestCut_X5_ru : GoodIn wsX5_bestCut (wsV RX5 57 RX5 yX5_ru wsX5_ru) := goodIn_app (goodIn_of _ (by decide +kernel)) ggX5_bestCut_X5_ru
set_option maxRecDepth 20000 in
theorem ggX5_bestCut_X5_let : GoodIn wsX5_bestCut wsX5_let := goodIn_r _ [36, 23, 102, 103, 104, 105, 106, 107, 108, 109, 110, 111] (by decide +kernel) (by decide +kernel)
set_option maxRecDepth 20000 in
theorem gX5_bestCut_X5_let : GoodIn wsX5_bestCut (wsV RX5 85 RX5 yX5_let wsX5_let) := goodIn_app (goodIn_of _ (by decide +kernel)) ggX5_bestCut_X5_let
set_option maxRecDepth 20000 in
theorem ggX5_bestCut_X5_daysOn : GoodIn wsX5_bestCut wsX5_daysOn := goodIn_r _ [40, 41, 42, 43, 9, 44, 11, 23, 45, 46, 47, 48, 49, 50, 51, 52, 53, 54, 55, 56, 57, 29, 30, 31, 32, 58, 59, 60, 61, 62, 63, 64, 65, 66, 67, 68, 69, 70, 71, 72, 73, 74, 75, 4, 76, 77, 78, 79, 80, 81, 82, 83, 84, 85, 86, 87, 88, 89, 90, 91, 92, 93, 33, 34, 35, 36, 94, 95, 96, 97, 102, 103, 104, 105, 106, 107, 108, 109, 110, 111] (by decide +kernel) (by decide +kernel)
set_option maxRecDepth 20000 in
theorem gX5_bestCut_X5_daysOn : GoodIn wsX5_bestCut (wsV RX5 114 RX5 yX5_daysOn wsX5_daysOn) := goodIn_app (goodIn_of _ (by decide +kernel)) ggX5_bestCut_X5_daysOn
set_option maxRecDepth 20000 in
theorem ggX5_bestCut_X5_view : GoodIn wsX5_bestCut wsX5_view := goodIn_r _ [65, 54, 55, 56, 9, 57, 29, 30, 31, 32, 23, 66, 67, 68, 69, 70, 71, 72, 73, 74, 75, 4, 76, 102, 103, 104, 105, 106, 107, 108, 109, 110, 111] (by decide +kernel) (by decide +kernel)
set_option maxRecDepth 20000 in
theorem gX5_bestCut_X5_view : GoodIn wsX5_bestCut (wsV RX5 72 RX5 yX5_view wsX5_view) := goodIn_app (goodIn_of _ (by decide +kernel)) ggX5_bestCut_X5_view
set_option maxRecDepth 20000 in
theorem ggX5_bestCut_X5_bringBack : GoodIn wsX5_bestCut wsX5_bringBack := goodIn_r _ [101, 24, 23, 25, 26, 27, 28, 102, 103, 104, 105, 106, 107, 108, 109, 110, 111] (by decide +kernel) (by decide +kernel)
set_option maxRecDepth 20000 in
theorem gX5_bestCut_X5_bringBack : GoodIn wsX5_bestCut (wsV RX5 135 RX5 yX5_bringBack wsX5_bringBack) := goodIn_app (goodIn_of _ (by decide +kernel)) ggX5_bestCut_X5_bringBack
theorem dX5_bestCut_0 : decode cX5_bestCut 0 = .ok (.aload_n 0, 1) := by decide +kernel
theorem dX5_bestCut_1 : decode cX5_bestCut 1 = .ok (.iconst 0, 1) := by decide +kernel
theorem dX5_bestCut_2 : decode cX5_bestCut 2 = .ok (.putfield 32, 3) := by decide +kernel
theorem dX5_bestCut_5 : decode cX5_bestCut 5 = .ok (.aload_n 0, 1) := by decide +kernel
theorem dX5_bestCut_6 : decode cX5_bestCut 6 = .ok (.iload_n 1, 1) := by decide +kernel
theorem dX5_bestCut_7 : decode cX5_bestCut 7 = .ok (.invokevirtual 108, 3) := by decide +kernel
theorem dX5_bestCut_10 : decode cX5_bestCut 10 = .ok (.ifCond .ne 9, 3) := by decide +kernel
theorem dX5_bestCut_13 : decode cX5_bestCut 13 = .ok (.aload_n 0, 1) := by decide +kernel
theorem dX5_bestCut_14 : decode cX5_bestCut 14 = .ok (.iconst 1, 1) := by decide +kernel
theorem dX5_bestCut_15 : decode cX5_bestCut 15 = .ok (.invokevirtual 105, 3) := by decide +kernel
theorem dX5_bestCut_18 : decode cX5_bestCut 18 = .ok (.ireturn, 1) := by decide +kernel
theorem dX5_bestCut_19 : decode cX5_bestCut 19 = .ok (.iconst 0, 1) := by decide +kernel
theorem dX5_bestCut_20 : decode cX5_bestCut 20 = .ok (.istore_n 2, 1) := by decide +kernel
theorem dX5_bestCut_21 : decode cX5_bestCut 21 = .ok (.iconst (-1), 1) := by decide +kernel
theorem dX5_bestCut_22 : decode cX5_bestCut 22 = .ok (.istore_n 3, 1) := by decide +kernel
theorem dX5_bestCut_23 : decode cX5_bestCut 23 = .ok (.iconst (-1), 1) := by decide +kernel
theorem dX5_bestCut_24 : decode cX5_bestCut 24 = .ok (.istore 4, 2) := by decide +kernel
theorem dX5_bestCut_26 : decode cX5_bestCut 26 = .ok (.aload_n 0, 1) := by decide +kernel
theorem dX5_bestCut_27 : decode cX5_bestCut 27 = .ok (.invokevirtual 132, 3) := by decide +kernel
theorem dX5_bestCut_30 : decode cX5_bestCut 30 = .ok (.iconst 0, 1) := by decide +kernel
theorem dX5_bestCut_31 : decode cX5_bestCut 31 = .ok (.istore 5, 2) := by decide +kernel
theorem dX5_bestCut_33 : decode cX5_bestCut 33 = .ok (.iload 5, 2) := by decide +kernel
theorem dX5_bestCut_35 : decode cX5_bestCut 35 = .ok (.bipush 12, 2) := by decide +kernel
theorem dX5_bestCut_37 : decode cX5_bestCut 37 = .ok (.if_icmp .gt 85, 3) := by decide +kernel
theorem dX5_bestCut_40 : decode cX5_bestCut 40 = .ok (.aload_n 0, 1) := by decide +kernel
theorem dX5_bestCut_41 : decode cX5_bestCut 41 = .ok (.iload_n 1, 1) := by decide +kernel
theorem dX5_bestCut_42 : decode cX5_bestCut 42 = .ok (.iconst 1, 1) := by decide +kernel
theorem dX5_bestCut_43 : decode cX5_bestCut 43 = .ok (.iconst 0, 1) := by decide +kernel
theorem dX5_bestCut_44 : decode cX5_bestCut 44 = .ok (.aload_n 0, 1) := by decide +kernel
theorem dX5_bestCut_45 : decode cX5_bestCut 45 = .ok (.iload_n 1, 1) := by decide +kernel
theorem dX5_bestCut_46 : decode cX5_bestCut 46 = .ok (.iconst 1, 1) := by decide +kernel
theorem dX5_bestCut_47 : decode cX5_bestCut 47 = .ok (.invokevirtual 57, 3) := by decide +kernel
theorem dX5_bestCut_50 : decode cX5_bestCut 50 = .ok (.iload 5, 2) := by decide +kernel
theorem dX5_bestCut_52 : decode cX5_bestCut 52 = .ok (.isub, 1) := by decide +kernel
theorem dX5_bestCut_53 : decode cX5_bestCut 53 = .ok (.invokestatic 111, 3) := by decide +kernel
theorem dX5_bestCut_56 : decode cX5_bestCut 56 = .ok (.invokevirtual 85, 3) := by decide +kernel
theorem dX5_bestCut_59 : decode cX5_bestCut 59 = .ok (.aload_n 0, 1) := by decide +kernel
theorem dX5_bestCut_60 : decode cX5_bestCut 60 = .ok (.bipush 40, 2) := by decide +kernel
theorem dX5_bestCut_62 : decode cX5_bestCut 62 = .ok (.invokevirtual 114, 3) := by decide +kernel
theorem dX5_bestCut_65 : decode cX5_bestCut 65 = .ok (.aload_n 0, 1) := by decide +kernel
theorem dX5_bestCut_66 : decode cX5_bestCut 66 = .ok (.iload_n 1, 1) := by decide +kernel
theorem dX5_bestCut_67 : decode cX5_bestCut 67 = .ok (.iconst 0, 1) := by decide +kernel
theorem dX5_bestCut_68 : decode cX5_bestCut 68 = .ok (.invokevirtual 57, 3) := by decide +kernel
theorem dX5_bestCut_71 : decode cX5_bestCut 71 = .ok (.istore 6, 2) := by decide +kernel
theorem dX5_bestCut_73 : decode cX5_bestCut 73 = .ok (.aload_n 0, 1) := by decide +kernel
theorem dX5_bestCut_74 : decode cX5_bestCut 74 = .ok (.iload_n 1, 1) := by decide +kernel
theorem dX5_bestCut_75 : decode cX5_bestCut 75 = .ok (.invokevirtual 72, 3) := by decide +kernel
theorem dX5_bestCut_78 : decode cX5_bestCut 78 = .ok (.istore 7, 2) := by decide +kernel
theorem dX5_bestCut_80 : decode cX5_bestCut 80 = .ok (.aload_n 0, 1) := by decide +kernel
theorem dX5_bestCut_81 : decode cX5_bestCut 81 = .ok (.invokevirtual 135, 3) := by decide +kernel
theorem dX5_bestCut_84 : decode cX5_bestCut 84 = .ok (.iload 6, 2) := by decide +kernel
theorem dX5_bestCut_86 : decode cX5_bestCut 86 = .ok (.iload_n 3, 1) := by decide +kernel
theorem dX5_bestCut_87 : decode cX5_bestCut 87 = .ok (.if_icmp .lt 29, 3) := by decide +kernel
theorem dX5_bestCut_90 : decode cX5_bestCut 90 = .ok (.iload 6, 2) := by decide +kernel
theorem dX5_bestCut_92 : decode cX5_bestCut 92 = .ok (.iload_n 3, 1) := by decide +kernel
theorem dX5_bestCut_93 : decode cX5_bestCut 93 = .ok (.if_icmp .ne 13, 3) := by decide +kernel
theorem dX5_bestCut_96 : decode cX5_bestCut 96 = .ok (.iload 7, 2) := by decide +kernel
theorem dX5_bestCut_98 : decode cX5_bestCut 98 = .ok (.iload 4, 2) := by decide +kernel
theorem dX5_bestCut_100 : decode cX5_bestCut 100 = .ok (.if_icmp .gt 6, 3) := by decide +kernel
theorem dX5_bestCut_103 : decode cX5_bestCut 103 = .ok (.goto 13, 3) := by decide +kernel
theorem dX5_bestCut_106 : decode cX5_bestCut 106 = .ok (.iload 5, 2) := by decide +kernel
theorem dX5_bestCut_108 : decode cX5_bestCut 108 = .ok (.istore_n 2, 1) := by decide +kernel
theorem dX5_bestCut_109 : decode cX5_bestCut 109 = .ok (.iload 6, 2) := by decide +kernel
theorem dX5_bestCut_111 : decode cX5_bestCut 111 = .ok (.istore_n 3, 1) := by decide +kernel
theorem dX5_bestCut_112 : decode cX5_bestCut 112 = .ok (.iload 7, 2) := by decide +kernel
theorem dX5_bestCut_114 : decode cX5_bestCut 114 = .ok (.istore 4, 2) := by decide +kernel
theorem dX5_bestCut_116 : decode cX5_bestCut 116 = .ok (.iinc 5 1, 3) := by decide +kernel
theorem dX5_bestCut_119 : decode cX5_bestCut 119 = .ok (.goto (-86), 3) := by decide +kernel
theorem dX5_bestCut_122 : decode cX5_bestCut 122 = .ok (.iload_n 2, 1) := by decide +kernel
theorem dX5_bestCut_123 : decode cX5_bestCut 123 = .ok (.ireturn, 1) := by decide +kernel
set_option maxRecDepth 20000 in
theorem ggX5_purseIn_X5_isIn : GoodIn wsX5_purseIn wsX5_isIn := goodIn_r _ [6] (by decide +kernel) (by decide +kernel)
set_option maxRecDepth 20000 in
theorem gX5_purseIn_X5_isIn : GoodIn wsX5_purseIn (va_wsS RX5 38 yX5_isIn wsX5_isIn) := goodIn_app (goodIn_of _ (by decide +kernel)) ggX5_purseIn_X5_isIn
set_option maxRecDepth 20000 in
theorem ggX5_purseIn_X5_fail : GoodIn wsX5_purseIn wsX5_fail := goodIn_r _ [10, 1, 95, 96, 97, 98, 99, 100, 101, 102, 103, 104] (by decide +kernel) (by decide +kernel)
set_option maxRecDepth 20000 in
theorem gX5_purseIn_X5_fail : GoodIn wsX5_purseIn (wsV RX5 105 RX5 yX5_fail wsX5_fail) := goodIn_app (goodIn_of _ (by decide +kernel)) ggX5_purseIn_X5_fail
set_option maxRecDepth 20000 in
theorem ggX5_purseIn_X5_keep : GoodIn wsX5_purseIn wsX5_keep := goodIn_r _ [14, 2, 15, 16, 17, 18, 19, 95, 96, 97, 98, 99, 100, 101, 102, 103, 104] (by decide +kernel) (by decide +kernel)
set_option maxRecDepth 20000 in
theorem gX5_purseIn_X5_keep : GoodIn wsX5_purseIn (wsV RX5 132 RX5 yX5_keep wsX5_keep) := goodIn_app (goodIn_of _ (by decide +kernel)) ggX5_purseIn_X5_keep
set_option maxRecDepth 20000 in
theorem ggX5_purseIn_X5_daysOn : GoodIn wsX5_purseIn wsX5_daysOn := goodIn_r _ [23, 24, 25, 26, 5, 27, 28, 2, 29, 30, 31, 32, 33, 34, 35, 36, 37, 38, 39, 40, 41, 42, 43, 44, 45, 46, 47, 48, 49, 50, 51, 52, 53, 54, 55, 56, 57, 58, 59, 60, 61, 62, 63, 64, 65, 66, 67, 68, 69, 70, 71, 72, 73, 74, 75, 76, 77, 78, 79, 80, 81, 82, 83, 84, 85, 86, 87, 88, 89, 90, 95, 96, 97, 98, 99, 100, 101, 102, 103, 104] (by decide +kernel) (by decide +kernel)
set_option maxRecDepth 20000 in
theorem gX5_purseIn_X5_daysOn : GoodIn wsX5_purseIn (wsV RX5 114 RX5 yX5_daysOn wsX5_daysOn) := goodIn_app (goodIn_of _ (by decide +kernel)) ggX5_purseIn_X5_daysOn
set_option maxRecDepth 20000 in
theorem ggX5_purseIn_X5_bringBack : GoodIn wsX5_purseIn wsX5_bringBack := goodIn_r _ [94, 15, 2, 16, 17, 18, 19, 95, 96, 97, 98, 99, 100, 101, 102, 103, 104] (by decide +kernel) (by decide +kernel)
set_option maxRecDepth 20000 in
theorem gX5_purseIn_X5_bringBack : GoodIn wsX5_purseIn (wsV RX5 135 RX5 yX5_bringBack wsX5_bringBack) := goodIn_app (goodIn_of _ (by decide +kernel)) ggX5_purseIn_X5_bringBack
theorem dX5_purseIn_0 : decode cX5_purseIn 0 = .ok (.aload_n 0, 1) := by decide +kernel
theorem dX5_purseIn_1 : decode cX5_purseIn 1 = .ok (.iconst 0, 1) := by decide +kernel
theorem dX5_purseIn_2 : decode cX5_purseIn 2 = .ok (.putfield 32, 3) := by decide +kernel
theorem dX5_purseIn_5 : decode cX5_purseIn 5 = .ok (.iload_n 1, 1) := by decide +kernel
theorem dX5_purseIn_6 : decode cX5_purseIn 6 = .ok (.iconst 1, 1) := by decide +kernel
theorem dX5_purseIn_7 : decode cX5_purseIn 7 = .ok (.bipush 60, 2) := by decide +kernel
theorem dX5_purseIn_9 : decode cX5_purseIn 9 = .ok (.invokestatic 38, 3) := by decide +kernel
theorem dX5_purseIn_12 : decode cX5_purseIn 12 = .ok (.ifCond .ne 9, 3) := by decide +kernel
theorem dX5_purseIn_15 : decode cX5_purseIn 15 = .ok (.aload_n 0, 1) := by decide +kernel
theorem dX5_purseIn_16 : decode cX5_purseIn 16 = .ok (.iconst 1, 1) := by decide +kernel
theorem dX5_purseIn_17 : decode cX5_purseIn 17 = .ok (.invokevirtual 105, 3) := by decide +kernel
theorem dX5_purseIn_20 : decode cX5_purseIn 20 = .ok (.ireturn, 1) := by decide +kernel
theorem dX5_purseIn_21 : decode cX5_purseIn 21 = .ok (.aload_n 0, 1) := by decide +kernel
theorem dX5_purseIn_22 : decode cX5_purseIn 22 = .ok (.invokevirtual 132, 3) := by decide +kernel
theorem dX5_purseIn_25 : decode cX5_purseIn 25 = .ok (.aload_n 0, 1) := by decide +kernel
theorem dX5_purseIn_26 : decode cX5_purseIn 26 = .ok (.iload_n 1, 1) := by decide +kernel
theorem dX5_purseIn_27 : decode cX5_purseIn 27 = .ok (.invokevirtual 114, 3) := by decide +kernel
theorem dX5_purseIn_30 : decode cX5_purseIn 30 = .ok (.aload_n 0, 1) := by decide +kernel
theorem dX5_purseIn_31 : decode cX5_purseIn 31 = .ok (.getfield 26, 3) := by decide +kernel
theorem dX5_purseIn_34 : decode cX5_purseIn 34 = .ok (.iconst 1, 1) := by decide +kernel
theorem dX5_purseIn_35 : decode cX5_purseIn 35 = .ok (.iaload, 1) := by decide +kernel
theorem dX5_purseIn_36 : decode cX5_purseIn 36 = .ok (.istore_n 2, 1) := by decide +kernel
theorem dX5_purseIn_37 : decode cX5_purseIn 37 = .ok (.aload_n 0, 1) := by decide +kernel
theorem dX5_purseIn_38 : decode cX5_purseIn 38 = .ok (.invokevirtual 135, 3) := by decide +kernel
theorem dX5_purseIn_41 : decode cX5_purseIn 41 = .ok (.iload_n 2, 1) := by decide +kernel
theorem dX5_purseIn_42 : decode cX5_purseIn 42 = .ok (.ireturn, 1) := by decide +kernel
set_option maxRecDepth 20000 in
theorem ggX5_meanView_X5_view : GoodIn wsX5_meanView wsX5_view := goodIn_r _ [7, 8, 9, 10, 6, 11, 12, 13, 14, 15, 16, 17, 18, 19, 20, 21, 22, 23, 24, 25, 26, 27, 28, 33, 34, 35, 36, 37, 38, 39, 40, 41, 42] (by decide +kernel) (by decide +kernel)
set_option maxRecDepth 20000 in
theorem gX5_meanView_X5_view : GoodIn wsX5_meanView (wsV RX5 72 RX5 yX5_view wsX5_view) := goodIn_app (goodIn_of _ (by decide +kernel)) ggX5_meanView_X5_view
set_option maxRecDepth 20000 in
theorem ggX5_meanView_X5_many : GoodIn wsX5_meanView wsX5_many := goodIn_r _ [32, 2, 8, 9, 10, 6, 11, 12, 13, 14, 15, 16, 33, 34, 35, 36, 37, 38, 39, 40, 41, 42] (by decide +kernel) (by decide +kernel)
set_option maxRecDepth 20000 in
theorem gX5_meanView_X5_many : GoodIn wsX5_meanView (wsV RX5 120 RX5 yX5_many wsX5_many) := goodIn_app (goodIn_of _ (by decide +kernel)) ggX5_meanView_X5_many
theorem dX5_meanView_0 : decode cX5_meanView 0 = .ok (.aload_n 0, 1) := by decide +kernel
theorem dX5_meanView_1 : decode cX5_meanView 1 = .ok (.iconst 0, 1) := by decide +kernel
theorem dX5_meanView_2 : decode cX5_meanView 2 = .ok (.putfield 32, 3) := by decide +kernel
theorem dX5_meanView_5 : decode cX5_meanView 5 = .ok (.iconst 0, 1) := by decide +kernel
theorem dX5_meanView_6 : decode cX5_meanView 6 = .ok (.istore_n 1, 1) := by decide +kernel
theorem dX5_meanView_7 : decode cX5_meanView 7 = .ok (.iconst 0, 1) := by decide +kernel
theorem dX5_meanView_8 : decode cX5_meanView 8 = .ok (.istore_n 2, 1) := by decide +kernel
theorem dX5_meanView_9 : decode cX5_meanView 9 = .ok (.iload_n 2, 1) := by decide +kernel
theorem dX5_meanView_10 : decode cX5_meanView 10 = .ok (.aload_n 0, 1) := by decide +kernel
theorem dX5_meanView_11 : decode cX5_meanView 11 = .ok (.getfield 35, 3) := by decide +kernel
theorem dX5_meanView_14 : decode cX5_meanView 14 = .ok (.if_icmp .ge 17, 3) := by decide +kernel
theorem dX5_meanView_17 : decode cX5_meanView 17 = .ok (.iload_n 1, 1) := by decide +kernel
theorem dX5_meanView_18 : decode cX5_meanView 18 = .ok (.aload_n 0, 1) := by decide +kernel
theorem dX5_meanView_19 : decode cX5_meanView 19 = .ok (.iload_n 2, 1) := by decide +kernel
theorem dX5_meanView_20 : decode cX5_meanView 20 = .ok (.invokevirtual 72, 3) := by decide +kernel
theorem dX5_meanView_23 : decode cX5_meanView 23 = .ok (.iadd, 1) := by decide +kernel
theorem dX5_meanView_24 : decode cX5_meanView 24 = .ok (.istore_n 1, 1) := by decide +kernel
theorem dX5_meanView_25 : decode cX5_meanView 25 = .ok (.iinc 2 1, 3) := by decide +kernel
theorem dX5_meanView_28 : decode cX5_meanView 28 = .ok (.goto (-19), 3) := by decide +kernel
theorem dX5_meanView_31 : decode cX5_meanView 31 = .ok (.aload_n 0, 1) := by decide +kernel
theorem dX5_meanView_32 : decode cX5_meanView 32 = .ok (.invokevirtual 120, 3) := by decide +kernel
theorem dX5_meanView_35 : decode cX5_meanView 35 = .ok (.ifCond .ne 7, 3) := by decide +kernel
theorem dX5_meanView_38 : decode cX5_meanView 38 = .ok (.dconst 0, 1) := by decide +kernel
theorem dX5_meanView_39 : decode cX5_meanView 39 = .ok (.goto 11, 3) := by decide +kernel
theorem dX5_meanView_42 : decode cX5_meanView 42 = .ok (.iload_n 1, 1) := by decide +kernel
theorem dX5_meanView_43 : decode cX5_meanView 43 = .ok (.i2d, 1) := by decide +kernel
theorem dX5_meanView_44 : decode cX5_meanView 44 = .ok (.aload_n 0, 1) := by decide +kernel
theorem dX5_meanView_45 : decode cX5_meanView 45 = .ok (.invokevirtual 120, 3) := by decide +kernel
theorem dX5_meanView_48 : decode cX5_meanView 48 = .ok (.i2d, 1) := by decide +kernel
theorem dX5_meanView_49 : decode cX5_meanView 49 = .ok (.ddiv, 1) := by decide +kernel
theorem dX5_meanView_50 : decode cX5_meanView 50 = .ok (.dreturn, 1) := by decide +kernel
set_option maxRecDepth 20000 in
theorem ggX5_digest_X5_light : GoodIn wsX5_digest wsX5_light := goodIn_r _ [14, 3, 15, 16, 17, 18, 52, 53, 54, 55, 56, 57, 58, 59, 60, 61] (by decide +kernel) (by decide +kernel)
set_option maxRecDepth 20000 in
theorem gX5_digest_X5_light : GoodIn wsX5_digest (wsV RX5 68 RX5 yX5_light wsX5_light) := goodIn_app (goodIn_of _ (by decide +kernel)) ggX5_digest_X5_light
set_option maxRecDepth 20000 in
theorem ggX5_digest_X5_many : GoodIn wsX5_digest wsX5_many := goodIn_r _ [22, 4, 23, 24, 25, 13, 26, 27, 28, 29, 30, 3, 52, 53, 54, 55, 56, 57, 58, 59, 60, 61] (by decide +kernel) (by decide +kernel)
set_option maxRecDepth 20000 in
theorem gX5_digest_X5_many : GoodIn wsX5_digest (wsV RX5 120 RX5 yX5_many wsX5_many) := goodIn_app (goodIn_of _ (by decide +kernel)) ggX5_digest_X5_many
set_option maxRecDepth 20000 in
theorem ggX5_digest_X5_ru : GoodIn wsX5_digest wsX5_ru := goodIn_r _ [30, 3, 52, 53, 54, 55, 56, 57, 58, 59, 60, 61] (by decide +kernel) (by decide +kernel)
set_option maxRecDepth 20000 in
theorem gX5_digest_X5_ru : GoodIn wsX5_digest (wsV RX5 57 RX5 yX5_ru wsX5_ru) := goodIn_app (goodIn_of _ (by decide +kernel)) ggX5_digest_X5_ru
set_option maxRecDepth 20000 in
theorem ggX5_digest_X5_view : GoodIn wsX5_digest wsX5_view := goodIn_r _ [34, 23, 24, 25, 13, 26, 27, 28, 29, 30, 3, 35, 36, 37, 38, 10, 11, 12, 14, 15, 16, 17, 18, 52, 53, 54, 55, 56, 57, 58, 59, 60, 61] (by decide +kernel) (by decide +kernel)
set_option maxRecDepth 20000 in
theorem gX5_digest_X5_view : GoodIn wsX5_digest (wsV RX5 72 RX5 yX5_view wsX5_view) := goodIn_app (goodIn_of _ (by decide +kernel)) ggX5_digest_X5_view
set_option maxRecDepth 20000 in
theorem ggX5_digest_X5_rank : GoodIn wsX5_digest wsX5_rank := goodIn_r _ [42, 4, 23, 24, 25, 13, 26, 27, 28, 29, 30, 3, 43, 44, 45, 46, 8, 31, 32, 33, 34, 35, 36, 37, 38, 10, 11, 12, 14, 15, 16, 17, 18, 52, 53, 54, 55, 56, 57, 58, 59, 60, 61] (by decide +kernel) (by decide +kernel)
set_option maxRecDepth 20000 in
theorem gX5_digest_X5_rank : GoodIn wsX5_digest (wsV RX5 79 RX5 yX5_rank wsX5_rank) := goodIn_app (goodIn_of _ (by decide +kernel)) ggX5_digest_X5_rank
set_option maxRecDepth 20000 in
theorem ggX5_digest_X5_come : GoodIn wsX5_digest wsX5_come := goodIn_r _ [50, 51, 52, 53, 54, 55, 56, 57, 58, 59, 60, 61] (by decide +kernel) (by decide +kernel)
set_option maxRecDepth 20000 in
theorem gX5_digest_X5_come : GoodIn wsX5_digest (wsV RX5 82 RX5 yX5_come wsX5_come) := goodIn_app (goodIn_of _ (by decide +kernel)) ggX5_digest_X5_come
theorem dX5_digest_0 : decode cX5_digest 0 = .ok (.aload_n 0, 1) := by decide +kernel
theorem dX5_digest_1 : decode cX5_digest 1 = .ok (.iconst 0, 1) := by decide +kernel
theorem dX5_digest_2 : decode cX5_digest 2 = .ok (.putfield 32, 3) := by decide +kernel
theorem dX5_digest_5 : decode cX5_digest 5 = .ok (.bipush 6, 2) := by decide +kernel
theorem dX5_digest_7 : decode cX5_digest 7 = .ok (.newarray .int, 2) := by decide +kernel
theorem dX5_digest_9 : decode cX5_digest 9 = .ok (.dup, 1) := by decide +kernel
theorem dX5_digest_10 : decode cX5_digest 10 = .ok (.iconst 0, 1) := by decide +kernel
theorem dX5_digest_11 : decode cX5_digest 11 = .ok (.aload_n 0, 1) := by decide +kernel
theorem dX5_digest_12 : decode cX5_digest 12 = .ok (.getfield 26, 3) := by decide +kernel
theorem dX5_digest_15 : decode cX5_digest 15 = .ok (.iconst 0, 1) := by decide +kernel
theorem dX5_digest_16 : decode cX5_digest 16 = .ok (.iaload, 1) := by decide +kernel
theorem dX5_digest_17 : decode cX5_digest 17 = .ok (.iastore, 1) := by decide +kernel
theorem dX5_digest_18 : decode cX5_digest 18 = .ok (.dup, 1) := by decide +kernel
theorem dX5_digest_19 : decode cX5_digest 19 = .ok (.iconst 1, 1) := by decide +kernel
theorem dX5_digest_20 : decode cX5_digest 20 = .ok (.aload_n 0, 1) := by decide +kernel
theorem dX5_digest_21 : decode cX5_digest 21 = .ok (.invokevirtual 68, 3) := by decide +kernel
theorem dX5_digest_24 : decode cX5_digest 24 = .ok (.iastore, 1) := by decide +kernel
theorem dX5_digest_25 : decode cX5_digest 25 = .ok (.dup, 1) := by decide +kernel
theorem dX5_digest_26 : decode cX5_digest 26 = .ok (.iconst 2, 1) := by decide +kernel
theorem dX5_digest_27 : decode cX5_digest 27 = .ok (.aload_n 0, 1) := by decide +kernel
theorem dX5_digest_28 : decode cX5_digest 28 = .ok (.getfield 35, 3) := by decide +kernel
theorem dX5_digest_31 : decode cX5_digest 31 = .ok (.iastore, 1) := by decide +kernel
theorem dX5_digest_32 : decode cX5_digest 32 = .ok (.dup, 1) := by decide +kernel
theorem dX5_digest_33 : decode cX5_digest 33 = .ok (.iconst 3, 1) := by decide +kernel
theorem dX5_digest_34 : decode cX5_digest 34 = .ok (.aload_n 0, 1) := by decide +kernel
theorem dX5_digest_35 : decode cX5_digest 35 = .ok (.invokevirtual 120, 3) := by decide +kernel
theorem dX5_digest_38 : decode cX5_digest 38 = .ok (.iastore, 1) := by decide +kernel
theorem dX5_digest_39 : decode cX5_digest 39 = .ok (.dup, 1) := by decide +kernel
theorem dX5_digest_40 : decode cX5_digest 40 = .ok (.iconst 4, 1) := by decide +kernel
theorem dX5_digest_41 : decode cX5_digest 41 = .ok (.aload_n 0, 1) := by decide +kernel
theorem dX5_digest_42 : decode cX5_digest 42 = .ok (.getfield 26, 3) := by decide +kernel
theorem dX5_digest_45 : decode cX5_digest 45 = .ok (.iconst 1, 1) := by decide +kernel
theorem dX5_digest_46 : decode cX5_digest 46 = .ok (.iaload, 1) := by decide +kernel
theorem dX5_digest_47 : decode cX5_digest 47 = .ok (.iastore, 1) := by decide +kernel
theorem dX5_digest_48 : decode cX5_digest 48 = .ok (.dup, 1) := by decide +kernel
theorem dX5_digest_49 : decode cX5_digest 49 = .ok (.iconst 5, 1) := by decide +kernel
theorem dX5_digest_50 : decode cX5_digest 50 = .ok (.aload_n 0, 1) := by decide +kernel
theorem dX5_digest_51 : decode cX5_digest 51 = .ok (.getfield 42, 3) := by decide +kernel
theorem dX5_digest_54 : decode cX5_digest 54 = .ok (.iastore, 1) := by decide +kernel
theorem dX5_digest_55 : decode cX5_digest 55 = .ok (.astore_n 1, 1) := by decide +kernel
theorem dX5_digest_56 : decode cX5_digest 56 = .ok (.ldc2_w 142, 3) := by decide +kernel
theorem dX5_digest_59 : decode cX5_digest 59 = .ok (.lstore_n 2, 1) := by decide +kernel
theorem dX5_digest_60 : decode cX5_digest 60 = .ok (.aload_n 1, 1) := by decide +kernel
theorem dX5_digest_61 : decode cX5_digest 61 = .ok (.astore 4, 2) := by decide +kernel
theorem dX5_digest_63 : decode cX5_digest 63 = .ok (.aload 4, 2) := by decide +kernel
theorem dX5_digest_65 : decode cX5_digest 65 = .ok (.arraylength, 1) := by decide +kernel
theorem dX5_digest_66 : decode cX5_digest 66 = .ok (.istore 5, 2) := by decide +kernel
theorem dX5_digest_68 : decode cX5_digest 68 = .ok (.iconst 0, 1) := by decide +kernel
theorem dX5_digest_69 : decode cX5_digest 69 = .ok (.istore 6, 2) := by decide +kernel
theorem dX5_digest_71 : decode cX5_digest 71 = .ok (.iload 6, 2) := by decide +kernel
theorem dX5_digest_73 : decode cX5_digest 73 = .ok (.iload 5, 2) := by decide +kernel
theorem dX5_digest_75 : decode cX5_digest 75 = .ok (.if_icmp .ge 26, 3) := by decide +kernel
theorem dX5_digest_78 : decode cX5_digest 78 = .ok (.aload 4, 2) := by decide +kernel
theorem dX5_digest_80 : decode cX5_digest 80 = .ok (.iload 6, 2) := by decide +kernel
theorem dX5_digest_82 : decode cX5_digest 82 = .ok (.iaload, 1) := by decide +kernel
theorem dX5_digest_83 : decode cX5_digest 83 = .ok (.istore 7, 2) := by decide +kernel
theorem dX5_digest_85 : decode cX5_digest 85 = .ok (.lload_n 2, 1) := by decide +kernel
theorem dX5_digest_86 : decode cX5_digest 86 = .ok (.ldc2_w 144, 3) := by decide +kernel
theorem dX5_digest_89 : decode cX5_digest 89 = .ok (.lmul, 1) := by decide +kernel
theorem dX5_digest_90 : decode cX5_digest 90 = .ok (.iload 7, 2) := by decide +kernel
theorem dX5_digest_92 : decode cX5_digest 92 = .ok (.i2l, 1) := by decide +kernel
theorem dX5_digest_93 : decode cX5_digest 93 = .ok (.ladd, 1) := by decide +kernel
theorem dX5_digest_94 : decode cX5_digest 94 = .ok (.lstore_n 2, 1) := by decide +kernel
theorem dX5_digest_95 : decode cX5_digest 95 = .ok (.iinc 6 1, 3) := by decide +kernel
theorem dX5_digest_98 : decode cX5_digest 98 = .ok (.goto (-27), 3) := by decide +kernel
theorem dX5_digest_101 : decode cX5_digest 101 = .ok (.iconst 0, 1) := by decide +kernel
theorem dX5_digest_102 : decode cX5_digest 102 = .ok (.istore 4, 2) := by decide +kernel
theorem dX5_digest_104 : decode cX5_digest 104 = .ok (.iload 4, 2) := by decide +kernel
theorem dX5_digest_106 : decode cX5_digest 106 = .ok (.aload_n 0, 1) := by decide +kernel
theorem dX5_digest_107 : decode cX5_digest 107 = .ok (.getfield 35, 3) := by decide +kernel
theorem dX5_digest_110 : decode cX5_digest 110 = .ok (.if_icmp .ge 129, 3) := by decide +kernel
theorem dX5_digest_113 : decode cX5_digest 113 = .ok (.bipush 7, 2) := by decide +kernel
theorem dX5_digest_115 : decode cX5_digest 115 = .ok (.newarray .int, 2) := by decide +kernel
theorem dX5_digest_117 : decode cX5_digest 117 = .ok (.dup, 1) := by decide +kernel
theorem dX5_digest_118 : decode cX5_digest 118 = .ok (.iconst 0, 1) := by decide +kernel
theorem dX5_digest_119 : decode cX5_digest 119 = .ok (.aload_n 0, 1) := by decide +kernel
theorem dX5_digest_120 : decode cX5_digest 120 = .ok (.iload 4, 2) := by decide +kernel
theorem dX5_digest_122 : decode cX5_digest 122 = .ok (.iconst 0, 1) := by decide +kernel
theorem dX5_digest_123 : decode cX5_digest 123 = .ok (.invokevirtual 57, 3) := by decide +kernel
theorem dX5_digest_126 : decode cX5_digest 126 = .ok (.iastore, 1) := by decide +kernel
theorem dX5_digest_127 : decode cX5_digest 127 = .ok (.dup, 1) := by decide +kernel
theorem dX5_digest_128 : decode cX5_digest 128 = .ok (.iconst 1, 1) := by decide +kernel
theorem dX5_digest_129 : decode cX5_digest 129 = .ok (.aload_n 0, 1) := by decide +kernel
theorem dX5_digest_130 : decode cX5_digest 130 = .ok (.iload 4, 2) := by decide +kernel
theorem dX5_digest_132 : decode cX5_digest 132 = .ok (.iconst 1, 1) := by decide +kernel
theorem dX5_digest_133 : decode cX5_digest 133 = .ok (.invokevirtual 57, 3) := by decide +kernel
theorem dX5_digest_136 : decode cX5_digest 136 = .ok (.iastore, 1) := by decide +kernel
theorem dX5_digest_137 : decode cX5_digest 137 = .ok (.dup, 1) := by decide +kernel
theorem dX5_digest_138 : decode cX5_digest 138 = .ok (.iconst 2, 1) := by decide +kernel
theorem dX5_digest_139 : decode cX5_digest 139 = .ok (.aload_n 0, 1) := by decide +kernel
theorem dX5_digest_140 : decode cX5_digest 140 = .ok (.iload 4, 2) := by decide +kernel
theorem dX5_digest_142 : decode cX5_digest 142 = .ok (.iconst 2, 1) := by decide +kernel
theorem dX5_digest_143 : decode cX5_digest 143 = .ok (.invokevirtual 57, 3) := by decide +kernel
theorem dX5_digest_146 : decode cX5_digest 146 = .ok (.iastore, 1) := by decide +kernel
theorem dX5_digest_147 : decode cX5_digest 147 = .ok (.dup, 1) := by decide +kernel
theorem dX5_digest_148 : decode cX5_digest 148 = .ok (.iconst 3, 1) := by decide +kernel
theorem dX5_digest_149 : decode cX5_digest 149 = .ok (.aload_n 0, 1) := by decide +kernel
theorem dX5_digest_150 : decode cX5_digest 150 = .ok (.getfield 13, 3) := by decide +kernel
theorem dX5_digest_153 : decode cX5_digest 153 = .ok (.iload 4, 2) := by decide +kernel
theorem dX5_digest_155 : decode cX5_digest 155 = .ok (.iaload, 1) := by decide +kernel
theorem dX5_digest_156 : decode cX5_digest 156 = .ok (.iastore, 1) := by decide +kernel
theorem dX5_digest_157 : decode cX5_digest 157 = .ok (.dup, 1) := by decide +kernel
theorem dX5_digest_158 : decode cX5_digest 158 = .ok (.iconst 4, 1) := by decide +kernel
theorem dX5_digest_159 : decode cX5_digest 159 = .ok (.aload_n 0, 1) := by decide +kernel
theorem dX5_digest_160 : decode cX5_digest 160 = .ok (.iload 4, 2) := by decide +kernel
theorem dX5_digest_162 : decode cX5_digest 162 = .ok (.invokevirtual 72, 3) := by decide +kernel
theorem dX5_digest_165 : decode cX5_digest 165 = .ok (.iastore, 1) := by decide +kernel
theorem dX5_digest_166 : decode cX5_digest 166 = .ok (.dup, 1) := by decide +kernel
theorem dX5_digest_167 : decode cX5_digest 167 = .ok (.iconst 5, 1) := by decide +kernel
theorem dX5_digest_168 : decode cX5_digest 168 = .ok (.aload_n 0, 1) := by decide +kernel
theorem dX5_digest_169 : decode cX5_digest 169 = .ok (.iload 4, 2) := by decide +kernel
theorem dX5_digest_171 : decode cX5_digest 171 = .ok (.invokevirtual 79, 3) := by decide +kernel
theorem dX5_digest_174 : decode cX5_digest 174 = .ok (.iastore, 1) := by decide +kernel
theorem dX5_digest_175 : decode cX5_digest 175 = .ok (.dup, 1) := by decide +kernel
theorem dX5_digest_176 : decode cX5_digest 176 = .ok (.bipush 6, 2) := by decide +kernel
theorem dX5_digest_178 : decode cX5_digest 178 = .ok (.aload_n 0, 1) := by decide +kernel
theorem dX5_digest_179 : decode cX5_digest 179 = .ok (.aload_n 0, 1) := by decide +kernel
theorem dX5_digest_180 : decode cX5_digest 180 = .ok (.iload 4, 2) := by decide +kernel
theorem dX5_digest_182 : decode cX5_digest 182 = .ok (.invokevirtual 79, 3) := by decide +kernel
theorem dX5_digest_185 : decode cX5_digest 185 = .ok (.invokevirtual 82, 3) := by decide +kernel
theorem dX5_digest_188 : decode cX5_digest 188 = .ok (.iastore, 1) := by decide +kernel
theorem dX5_digest_189 : decode cX5_digest 189 = .ok (.astore 5, 2) := by decide +kernel
theorem dX5_digest_191 : decode cX5_digest 191 = .ok (.aload 5, 2) := by decide +kernel
theorem dX5_digest_193 : decode cX5_digest 193 = .ok (.astore 6, 2) := by decide +kernel
theorem dX5_digest_195 : decode cX5_digest 195 = .ok (.aload 6, 2) := by decide +kernel
theorem dX5_digest_197 : decode cX5_digest 197 = .ok (.arraylength, 1) := by decide +kernel
theorem dX5_digest_198 : decode cX5_digest 198 = .ok (.istore 7, 2) := by decide +kernel
theorem dX5_digest_200 : decode cX5_digest 200 = .ok (.iconst 0, 1) := by decide +kernel
theorem dX5_digest_201 : decode cX5_digest 201 = .ok (.istore 8, 2) := by decide +kernel
theorem dX5_digest_203 : decode cX5_digest 203 = .ok (.iload 8, 2) := by decide +kernel
theorem dX5_digest_205 : decode cX5_digest 205 = .ok (.iload 7, 2) := by decide +kernel
theorem dX5_digest_207 : decode cX5_digest 207 = .ok (.if_icmp .ge 26, 3) := by decide +kernel
theorem dX5_digest_210 : decode cX5_digest 210 = .ok (.aload 6, 2) := by decide +kernel
theorem dX5_digest_212 : decode cX5_digest 212 = .ok (.iload 8, 2) := by decide +kernel
theorem dX5_digest_214 : decode cX5_digest 214 = .ok (.iaload, 1) := by decide +kernel
theorem dX5_digest_215 : decode cX5_digest 215 = .ok (.istore 9, 2) := by decide +kernel
theorem dX5_digest_217 : decode cX5_digest 217 = .ok (.lload_n 2, 1) := by decide +kernel
theorem dX5_digest_218 : decode cX5_digest 218 = .ok (.ldc2_w 144, 3) := by decide +kernel
theorem dX5_digest_221 : decode cX5_digest 221 = .ok (.lmul, 1) := by decide +kernel
theorem dX5_digest_222 : decode cX5_digest 222 = .ok (.iload 9, 2) := by decide +kernel
theorem dX5_digest_224 : decode cX5_digest 224 = .ok (.i2l, 1) := by decide +kernel
theorem dX5_digest_225 : decode cX5_digest 225 = .ok (.ladd, 1) := by decide +kernel
theorem dX5_digest_226 : decode cX5_digest 226 = .ok (.lstore_n 2, 1) := by decide +kernel
theorem dX5_digest_227 : decode cX5_digest 227 = .ok (.iinc 8 1, 3) := by decide +kernel
theorem dX5_digest_230 : decode cX5_digest 230 = .ok (.goto (-27), 3) := by decide +kernel
theorem dX5_digest_233 : decode cX5_digest 233 = .ok (.iinc 4 1, 3) := by decide +kernel
theorem dX5_digest_236 : decode cX5_digest 236 = .ok (.goto (-132), 3) := by decide +kernel
theorem dX5_digest_239 : decode cX5_digest 239 = .ok (.iconst 0, 1) := by decide +kernel
theorem dX5_digest_240 : decode cX5_digest 240 = .ok (.istore 4, 2) := by decide +kernel
theorem dX5_digest_242 : decode cX5_digest 242 = .ok (.iload 4, 2) := by decide +kernel
theorem dX5_digest_244 : decode cX5_digest 244 = .ok (.aload_n 0, 1) := by decide +kernel
theorem dX5_digest_245 : decode cX5_digest 245 = .ok (.getfield 42, 3) := by decide +kernel
theorem dX5_digest_248 : decode cX5_digest 248 = .ok (.if_icmp .ge 77, 3) := by decide +kernel
theorem dX5_digest_251 : decode cX5_digest 251 = .ok (.lload_n 2, 1) := by decide +kernel
theorem dX5_digest_252 : decode cX5_digest 252 = .ok (.ldc2_w 144, 3) := by decide +kernel
theorem dX5_digest_255 : decode cX5_digest 255 = .ok (.lmul, 1) := by decide +kernel
theorem dX5_digest_256 : decode cX5_digest 256 = .ok (.aload_n 0, 1) := by decide +kernel
theorem dX5_digest_257 : decode cX5_digest 257 = .ok (.getfield 20, 3) := by decide +kernel
theorem dX5_digest_260 : decode cX5_digest 260 = .ok (.iload 4, 2) := by decide +kernel
theorem dX5_digest_262 : decode cX5_digest 262 = .ok (.iaload, 1) := by decide +kernel
theorem dX5_digest_263 : decode cX5_digest 263 = .ok (.i2l, 1) := by decide +kernel
theorem dX5_digest_264 : decode cX5_digest 264 = .ok (.ladd, 1) := by decide +kernel
theorem dX5_digest_265 : decode cX5_digest 265 = .ok (.lstore_n 2, 1) := by decide +kernel
theorem dX5_digest_266 : decode cX5_digest 266 = .ok (.lload_n 2, 1) := by decide +kernel
theorem dX5_digest_267 : decode cX5_digest 267 = .ok (.ldc2_w 144, 3) := by decide +kernel
theorem dX5_digest_270 : decode cX5_digest 270 = .ok (.lmul, 1) := by decide +kernel
theorem dX5_digest_271 : decode cX5_digest 271 = .ok (.aload_n 0, 1) := by decide +kernel
theorem dX5_digest_272 : decode cX5_digest 272 = .ok (.getfield 26, 3) := by decide +kernel
theorem dX5_digest_275 : decode cX5_digest 275 = .ok (.bipush 32, 2) := by decide +kernel
theorem dX5_digest_277 : decode cX5_digest 277 = .ok (.iload 4, 2) := by decide +kernel
theorem dX5_digest_279 : decode cX5_digest 279 = .ok (.iadd, 1) := by decide +kernel
theorem dX5_digest_280 : decode cX5_digest 280 = .ok (.iaload, 1) := by decide +kernel
theorem dX5_digest_281 : decode cX5_digest 281 = .ok (.ifCond .ne 7, 3) := by decide +kernel
theorem dX5_digest_284 : decode cX5_digest 284 = .ok (.iconst 1, 1) := by decide +kernel
theorem dX5_digest_285 : decode cX5_digest 285 = .ok (.goto 4, 3) := by decide +kernel
theorem dX5_digest_288 : decode cX5_digest 288 = .ok (.iconst 0, 1) := by decide +kernel
theorem dX5_digest_289 : decode cX5_digest 289 = .ok (.i2l, 1) := by decide +kernel
theorem dX5_digest_290 : decode cX5_digest 290 = .ok (.ladd, 1) := by decide +kernel
theorem dX5_digest_291 : decode cX5_digest 291 = .ok (.lstore_n 2, 1) := by decide +kernel
theorem dX5_digest_292 : decode cX5_digest 292 = .ok (.lload_n 2, 1) := by decide +kernel
theorem dX5_digest_293 : decode cX5_digest 293 = .ok (.ldc2_w 144, 3) := by decide +kernel
theorem dX5_digest_296 : decode cX5_digest 296 = .ok (.lmul, 1) := by decide +kernel
theorem dX5_digest_297 : decode cX5_digest 297 = .ok (.aload_n 0, 1) := by decide +kernel
theorem dX5_digest_298 : decode cX5_digest 298 = .ok (.getfield 26, 3) := by decide +kernel
theorem dX5_digest_301 : decode cX5_digest 301 = .ok (.bipush 32, 2) := by decide +kernel
theorem dX5_digest_303 : decode cX5_digest 303 = .ok (.iload 4, 2) := by decide +kernel
theorem dX5_digest_305 : decode cX5_digest 305 = .ok (.iadd, 1) := by decide +kernel
theorem dX5_digest_306 : decode cX5_digest 306 = .ok (.iaload, 1) := by decide +kernel
theorem dX5_digest_307 : decode cX5_digest 307 = .ok (.iconst 2, 1) := by decide +kernel
theorem dX5_digest_308 : decode cX5_digest 308 = .ok (.if_icmp .ne 7, 3) := by decide +kernel
theorem dX5_digest_311 : decode cX5_digest 311 = .ok (.iconst 1, 1) := by decide +kernel
theorem dX5_digest_312 : decode cX5_digest 312 = .ok (.goto 4, 3) := by decide +kernel
theorem dX5_digest_315 : decode cX5_digest 315 = .ok (.iconst 0, 1) := by decide +kernel
theorem dX5_digest_316 : decode cX5_digest 316 = .ok (.i2l, 1) := by decide +kernel
theorem dX5_digest_317 : decode cX5_digest 317 = .ok (.ladd, 1) := by decide +kernel
theorem dX5_digest_318 : decode cX5_digest 318 = .ok (.lstore_n 2, 1) := by decide +kernel
theorem dX5_digest_319 : decode cX5_digest 319 = .ok (.iinc 4 1, 3) := by decide +kernel
theorem dX5_digest_322 : decode cX5_digest 322 = .ok (.goto (-80), 3) := by decide +kernel
theorem dX5_digest_325 : decode cX5_digest 325 = .ok (.lload_n 2, 1) := by decide +kernel
theorem dX5_digest_326 : decode cX5_digest 326 = .ok (.lreturn, 1) := by decide +kernel
