theorem dX5_init_0 : decode cX5_init 0 = .ok (.aload_n 0, 1) := by decide +kernel
theorem dX5_init_1 : decode cX5_init 1 = .ok (.invokespecial 1, 3) := by decide +kernel
theorem dX5_init_4 : decode cX5_init 4 = .ok (.aload_n 0, 1) := by decide +kernel
theorem dX5_init_5 : decode cX5_init 5 = .ok (.bipush 12, 2) := by decide +kernel
theorem dX5_init_7 : decode cX5_init 7 = .ok (.putfield 7, 3) := by decide +kernel
theorem dX5_init_10 : decode cX5_init 10 = .ok (.aload_n 0, 1) := by decide +kernel
theorem dX5_init_11 : decode cX5_init 11 = .ok (.iconst 0, 1) := by decide +kernel
theorem dX5_init_12 : decode cX5_init 12 = .ok (.anewarray 13, 3) := by decide +kernel
theorem dX5_init_15 : decode cX5_init 15 = .ok (.putfield 15, 3) := by decide +kernel
theorem dX5_init_18 : decode cX5_init 18 = .ok (.aload_n 0, 1) := by decide +kernel
theorem dX5_init_19 : decode cX5_init 19 = .ok (.iconst 0, 1) := by decide +kernel
theorem dX5_init_20 : decode cX5_init 20 = .ok (.anewarray 13, 3) := by decide +kernel
theorem dX5_init_23 : decode cX5_init 23 = .ok (.putfield 19, 3) := by decide +kernel
theorem dX5_init_26 : decode cX5_init 26 = .ok (.return_, 1) := by decide +kernel
theorem dX5_with_0 : decode cX5_with 0 = .ok (.aload_n 0, 1) := by decide +kernel
theorem dX5_with_1 : decode cX5_with 1 = .ok (.arraylength, 1) := by decide +kernel
theorem dX5_with_2 : decode cX5_with 2 = .ok (.iconst 1, 1) := by decide +kernel
theorem dX5_with_3 : decode cX5_with 3 = .ok (.iadd, 1) := by decide +kernel
theorem dX5_with_4 : decode cX5_with 4 = .ok (.anewarray 13, 3) := by decide +kernel
theorem dX5_with_7 : decode cX5_with 7 = .ok (.astore_n 2, 1) := by decide +kernel
theorem dX5_with_8 : decode cX5_with 8 = .ok (.iconst 0, 1) := by decide +kernel
theorem dX5_with_9 : decode cX5_with 9 = .ok (.istore_n 3, 1) := by decide +kernel
theorem dX5_with_10 : decode cX5_with 10 = .ok (.iload_n 3, 1) := by decide +kernel
theorem dX5_with_11 : decode cX5_with 11 = .ok (.aload_n 0, 1) := by decide +kernel
theorem dX5_with_12 : decode cX5_with 12 = .ok (.arraylength, 1) := by decide +kernel
theorem dX5_with_13 : decode cX5_with 13 = .ok (.if_icmp .ge 15, 3) := by decide +kernel
theorem dX5_with_16 : decode cX5_with 16 = .ok (.aload_n 2, 1) := by decide +kernel
theorem dX5_with_17 : decode cX5_with 17 = .ok (.iload_n 3, 1) := by decide +kernel
theorem dX5_with_18 : decode cX5_with 18 = .ok (.aload_n 0, 1) := by decide +kernel
theorem dX5_with_19 : decode cX5_with 19 = .ok (.iload_n 3, 1) := by decide +kernel
theorem dX5_with_20 : decode cX5_with 20 = .ok (.aaload, 1) := by decide +kernel
theorem dX5_with_21 : decode cX5_with 21 = .ok (.aastore, 1) := by decide +kernel
theorem dX5_with_22 : decode cX5_with 22 = .ok (.iinc 3 1, 3) := by decide +kernel
theorem dX5_with_25 : decode cX5_with 25 = .ok (.goto (-15), 3) := by decide +kernel
theorem dX5_with_28 : decode cX5_with 28 = .ok (.aload_n 2, 1) := by decide +kernel
theorem dX5_with_29 : decode cX5_with 29 = .ok (.aload_n 0, 1) := by decide +kernel
theorem dX5_with_30 : decode cX5_with 30 = .ok (.arraylength, 1) := by decide +kernel
theorem dX5_with_31 : decode cX5_with 31 = .ok (.aload_n 1, 1) := by decide +kernel
theorem dX5_with_32 : decode cX5_with 32 = .ok (.aastore, 1) := by decide +kernel
theorem dX5_with_33 : decode cX5_with 33 = .ok (.aload_n 2, 1) := by decide +kernel
theorem dX5_with_34 : decode cX5_with 34 = .ok (.areturn, 1) := by decide +kernel
theorem dX5_moon_0 : decode cX5_moon 0 = .ok (.bipush 8, 2) := by decide +kernel
theorem dX5_moon_2 : decode cX5_moon 2 = .ok (.newarray .int, 2) := by decide +kernel
theorem dX5_moon_4 : decode cX5_moon 4 = .ok (.dup, 1) := by decide +kernel
theorem dX5_moon_5 : decode cX5_moon 5 = .ok (.iconst 0, 1) := by decide +kernel
theorem dX5_moon_6 : decode cX5_moon 6 = .ok (.iconst 0, 1) := by decide +kernel
theorem dX5_moon_7 : decode cX5_moon 7 = .ok (.iastore, 1) := by decide +kernel
theorem dX5_moon_8 : decode cX5_moon 8 = .ok (.dup, 1) := by decide +kernel
theorem dX5_moon_9 : decode cX5_moon 9 = .ok (.iconst 1, 1) := by decide +kernel
theorem dX5_moon_10 : decode cX5_moon 10 = .ok (.iconst 1, 1) := by decide +kernel
theorem dX5_moon_11 : decode cX5_moon 11 = .ok (.iastore, 1) := by decide +kernel
theorem dX5_moon_12 : decode cX5_moon 12 = .ok (.dup, 1) := by decide +kernel
theorem dX5_moon_13 : decode cX5_moon 13 = .ok (.iconst 2, 1) := by decide +kernel
theorem dX5_moon_14 : decode cX5_moon 14 = .ok (.iconst 2, 1) := by decide +kernel
theorem dX5_moon_15 : decode cX5_moon 15 = .ok (.iastore, 1) := by decide +kernel
theorem dX5_moon_16 : decode cX5_moon 16 = .ok (.dup, 1) := by decide +kernel
theorem dX5_moon_17 : decode cX5_moon 17 = .ok (.iconst 3, 1) := by decide +kernel
theorem dX5_moon_18 : decode cX5_moon 18 = .ok (.iconst 3, 1) := by decide +kernel
theorem dX5_moon_19 : decode cX5_moon 19 = .ok (.iastore, 1) := by decide +kernel
theorem dX5_moon_20 : decode cX5_moon 20 = .ok (.dup, 1) := by decide +kernel
theorem dX5_moon_21 : decode cX5_moon 21 = .ok (.iconst 4, 1) := by decide +kernel
theorem dX5_moon_22 : decode cX5_moon 22 = .ok (.iconst 4, 1) := by decide +kernel
theorem dX5_moon_23 : decode cX5_moon 23 = .ok (.iastore, 1) := by decide +kernel
theorem dX5_moon_24 : decode cX5_moon 24 = .ok (.dup, 1) := by decide +kernel
theorem dX5_moon_25 : decode cX5_moon 25 = .ok (.iconst 5, 1) := by decide +kernel
theorem dX5_moon_26 : decode cX5_moon 26 = .ok (.iconst 3, 1) := by decide +kernel
theorem dX5_moon_27 : decode cX5_moon 27 = .ok (.iastore, 1) := by decide +kernel
theorem dX5_moon_28 : decode cX5_moon 28 = .ok (.dup, 1) := by decide +kernel
theorem dX5_moon_29 : decode cX5_moon 29 = .ok (.bipush 6, 2) := by decide +kernel
theorem dX5_moon_31 : decode cX5_moon 31 = .ok (.iconst 2, 1) := by decide +kernel
theorem dX5_moon_32 : decode cX5_moon 32 = .ok (.iastore, 1) := by decide +kernel
theorem dX5_moon_33 : decode cX5_moon 33 = .ok (.dup, 1) := by decide +kernel
theorem dX5_moon_34 : decode cX5_moon 34 = .ok (.bipush 7, 2) := by decide +kernel
theorem dX5_moon_36 : decode cX5_moon 36 = .ok (.iconst 1, 1) := by decide +kernel
theorem dX5_moon_37 : decode cX5_moon 37 = .ok (.iastore, 1) := by decide +kernel
theorem dX5_moon_38 : decode cX5_moon 38 = .ok (.aload_n 0, 1) := by decide +kernel
theorem dX5_moon_39 : decode cX5_moon 39 = .ok (.getfield 22, 3) := by decide +kernel
theorem dX5_moon_42 : decode cX5_moon 42 = .ok (.bipush 8, 2) := by decide +kernel
theorem dX5_moon_44 : decode cX5_moon 44 = .ok (.irem, 1) := by decide +kernel
theorem dX5_moon_45 : decode cX5_moon 45 = .ok (.iaload, 1) := by decide +kernel
theorem dX5_moon_46 : decode cX5_moon 46 = .ok (.ireturn, 1) := by decide +kernel
theorem dX5_grade_0 : decode cX5_grade 0 = .ok (.iload_n 0, 1) := by decide +kernel
theorem dX5_grade_1 : decode cX5_grade 1 = .ok (.iconst 1, 1) := by decide +kernel
theorem dX5_grade_2 : decode cX5_grade 2 = .ok (.if_icmp .ge 7, 3) := by decide +kernel
theorem dX5_grade_5 : decode cX5_grade 5 = .ok (.iconst 0, 1) := by decide +kernel
theorem dX5_grade_6 : decode cX5_grade 6 = .ok (.goto 33, 3) := by decide +kernel
theorem dX5_grade_9 : decode cX5_grade 9 = .ok (.iload_n 0, 1) := by decide +kernel
theorem dX5_grade_10 : decode cX5_grade 10 = .ok (.iconst 4, 1) := by decide +kernel
theorem dX5_grade_11 : decode cX5_grade 11 = .ok (.if_icmp .ge 7, 3) := by decide +kernel
theorem dX5_grade_14 : decode cX5_grade 14 = .ok (.iconst 1, 1) := by decide +kernel
theorem dX5_grade_15 : decode cX5_grade 15 = .ok (.goto 24, 3) := by decide +kernel
theorem dX5_grade_18 : decode cX5_grade 18 = .ok (.iload_n 0, 1) := by decide +kernel
theorem dX5_grade_19 : decode cX5_grade 19 = .ok (.bipush 7, 2) := by decide +kernel
theorem dX5_grade_21 : decode cX5_grade 21 = .ok (.if_icmp .ge 7, 3) := by decide +kernel
theorem dX5_grade_24 : decode cX5_grade 24 = .ok (.iconst 2, 1) := by decide +kernel
theorem dX5_grade_25 : decode cX5_grade 25 = .ok (.goto 14, 3) := by decide +kernel
theorem dX5_grade_28 : decode cX5_grade 28 = .ok (.iload_n 0, 1) := by decide +kernel
theorem dX5_grade_29 : decode cX5_grade 29 = .ok (.bipush 10, 2) := by decide +kernel
theorem dX5_grade_31 : decode cX5_grade 31 = .ok (.if_icmp .ge 7, 3) := by decide +kernel
theorem dX5_grade_34 : decode cX5_grade 34 = .ok (.iconst 3, 1) := by decide +kernel
theorem dX5_grade_35 : decode cX5_grade 35 = .ok (.goto 4, 3) := by decide +kernel
theorem dX5_grade_38 : decode cX5_grade 38 = .ok (.iconst 1, 1) := by decide +kernel
theorem dX5_grade_39 : decode cX5_grade 39 = .ok (.ireturn, 1) := by decide +kernel
set_option maxRecDepth 20000 in
theorem ggX5_view_X5_grade : GoodIn wsX5_view wsX5_grade := goodIn_r _ [5] (by decide +kernel) (by decide +kernel)
set_option maxRecDepth 20000 in
theorem gX5_view_X5_grade : GoodIn wsX5_view (va_wsS RX5 25 yX5_grade wsX5_grade) := goodIn_app (goodIn_of _ (by decide +kernel)) ggX5_view_X5_grade
theorem dX5_view_0 : decode cX5_view 0 = .ok (.aload_n 0, 1) := by decide +kernel
theorem dX5_view_1 : decode cX5_view 1 = .ok (.getfield 15, 3) := by decide +kernel
theorem dX5_view_4 : decode cX5_view 4 = .ok (.iload_n 1, 1) := by decide +kernel
theorem dX5_view_5 : decode cX5_view 5 = .ok (.aaload, 1) := by decide +kernel
theorem dX5_view_6 : decode cX5_view 6 = .ok (.astore_n 3, 1) := by decide +kernel
theorem dX5_view_7 : decode cX5_view 7 = .ok (.aload_n 3, 1) := by decide +kernel
theorem dX5_view_8 : decode cX5_view 8 = .ok (.iconst 0, 1) := by decide +kernel
theorem dX5_view_9 : decode cX5_view 9 = .ok (.iaload, 1) := by decide +kernel
theorem dX5_view_10 : decode cX5_view 10 = .ok (.ifCond .ne 7, 3) := by decide +kernel
theorem dX5_view_13 : decode cX5_view 13 = .ok (.iconst 0, 1) := by decide +kernel
theorem dX5_view_14 : decode cX5_view 14 = .ok (.goto 25, 3) := by decide +kernel
theorem dX5_view_17 : decode cX5_view 17 = .ok (.aload_n 3, 1) := by decide +kernel
theorem dX5_view_18 : decode cX5_view 18 = .ok (.iconst 0, 1) := by decide +kernel
theorem dX5_view_19 : decode cX5_view 19 = .ok (.iaload, 1) := by decide +kernel
theorem dX5_view_20 : decode cX5_view 20 = .ok (.aload_n 3, 1) := by decide +kernel
theorem dX5_view_21 : decode cX5_view 21 = .ok (.iconst 0, 1) := by decide +kernel
theorem dX5_view_22 : decode cX5_view 22 = .ok (.iaload, 1) := by decide +kernel
theorem dX5_view_23 : decode cX5_view 23 = .ok (.iadd, 1) := by decide +kernel
theorem dX5_view_24 : decode cX5_view 24 = .ok (.iconst 3, 1) := by decide +kernel
theorem dX5_view_25 : decode cX5_view 25 = .ok (.aload_n 3, 1) := by decide +kernel
theorem dX5_view_26 : decode cX5_view 26 = .ok (.iconst 1, 1) := by decide +kernel
theorem dX5_view_27 : decode cX5_view 27 = .ok (.iaload, 1) := by decide +kernel
theorem dX5_view_28 : decode cX5_view 28 = .ok (.invokestatic 25, 3) := by decide +kernel
theorem dX5_view_31 : decode cX5_view 31 = .ok (.imul, 1) := by decide +kernel
theorem dX5_view_32 : decode cX5_view 32 = .ok (.iadd, 1) := by decide +kernel
theorem dX5_view_33 : decode cX5_view 33 = .ok (.iload_n 2, 1) := by decide +kernel
theorem dX5_view_34 : decode cX5_view 34 = .ok (.aload_n 3, 1) := by decide +kernel
theorem dX5_view_35 : decode cX5_view 35 = .ok (.iconst 2, 1) := by decide +kernel
theorem dX5_view_36 : decode cX5_view 36 = .ok (.iaload, 1) := by decide +kernel
theorem dX5_view_37 : decode cX5_view 37 = .ok (.imul, 1) := by decide +kernel
theorem dX5_view_38 : decode cX5_view 38 = .ok (.iadd, 1) := by decide +kernel
theorem dX5_view_39 : decode cX5_view 39 = .ok (.ireturn, 1) := by decide +kernel
set_option maxRecDepth 20000 in
theorem ggX5_ranked_X5_moon : GoodIn wsX5_ranked wsX5_moon := goodIn_r _ [7, 2, 8, 16, 17, 18, 19, 20] (by decide +kernel) (by decide +kernel)
set_option maxRecDepth 20000 in
theorem gX5_ranked_X5_moon : GoodIn wsX5_ranked (wsV RX5 29 RX5 yX5_moon wsX5_moon) := goodIn_app (goodIn_of _ (by decide +kernel)) ggX5_ranked_X5_moon
set_option maxRecDepth 20000 in
theorem ggX5_ranked_X5_view : GoodIn wsX5_ranked wsX5_view := goodIn_r _ [12, 1, 13, 14, 6, 15, 16, 17, 18, 19, 20] (by decide +kernel) (by decide +kernel)
set_option maxRecDepth 20000 in
theorem gX5_ranked_X5_view : GoodIn wsX5_ranked (wsV RX5 33 RX5 yX5_view wsX5_view) := goodIn_app (goodIn_of _ (by decide +kernel)) ggX5_ranked_X5_view
theorem dX5_ranked_0 : decode cX5_ranked 0 = .ok (.iconst 0, 1) := by decide +kernel
theorem dX5_ranked_1 : decode cX5_ranked 1 = .ok (.istore_n 1, 1) := by decide +kernel
theorem dX5_ranked_2 : decode cX5_ranked 2 = .ok (.aload_n 0, 1) := by decide +kernel
theorem dX5_ranked_3 : decode cX5_ranked 3 = .ok (.getfield 15, 3) := by decide +kernel
theorem dX5_ranked_6 : decode cX5_ranked 6 = .ok (.astore_n 2, 1) := by decide +kernel
theorem dX5_ranked_7 : decode cX5_ranked 7 = .ok (.aload_n 2, 1) := by decide +kernel
theorem dX5_ranked_8 : decode cX5_ranked 8 = .ok (.arraylength, 1) := by decide +kernel
theorem dX5_ranked_9 : decode cX5_ranked 9 = .ok (.istore_n 3, 1) := by decide +kernel
theorem dX5_ranked_10 : decode cX5_ranked 10 = .ok (.iconst 0, 1) := by decide +kernel
theorem dX5_ranked_11 : decode cX5_ranked 11 = .ok (.istore 4, 2) := by decide +kernel
theorem dX5_ranked_13 : decode cX5_ranked 13 = .ok (.iload 4, 2) := by decide +kernel
theorem dX5_ranked_15 : decode cX5_ranked 15 = .ok (.iload_n 3, 1) := by decide +kernel
theorem dX5_ranked_16 : decode cX5_ranked 16 = .ok (.if_icmp .ge 30, 3) := by decide +kernel
theorem dX5_ranked_19 : decode cX5_ranked 19 = .ok (.aload_n 2, 1) := by decide +kernel
theorem dX5_ranked_20 : decode cX5_ranked 20 = .ok (.iload 4, 2) := by decide +kernel
theorem dX5_ranked_22 : decode cX5_ranked 22 = .ok (.aaload, 1) := by decide +kernel
theorem dX5_ranked_23 : decode cX5_ranked 23 = .ok (.astore 5, 2) := by decide +kernel
theorem dX5_ranked_25 : decode cX5_ranked 25 = .ok (.iload_n 1, 1) := by decide +kernel
theorem dX5_ranked_26 : decode cX5_ranked 26 = .ok (.aload 5, 2) := by decide +kernel
theorem dX5_ranked_28 : decode cX5_ranked 28 = .ok (.iconst 0, 1) := by decide +kernel
theorem dX5_ranked_29 : decode cX5_ranked 29 = .ok (.iaload, 1) := by decide +kernel
theorem dX5_ranked_30 : decode cX5_ranked 30 = .ok (.ifCond .le 7, 3) := by decide +kernel
theorem dX5_ranked_33 : decode cX5_ranked 33 = .ok (.iconst 1, 1) := by decide +kernel
theorem dX5_ranked_34 : decode cX5_ranked 34 = .ok (.goto 4, 3) := by decide +kernel
theorem dX5_ranked_37 : decode cX5_ranked 37 = .ok (.iconst 0, 1) := by decide +kernel
theorem dX5_ranked_38 : decode cX5_ranked 38 = .ok (.iadd, 1) := by decide +kernel
theorem dX5_ranked_39 : decode cX5_ranked 39 = .ok (.istore_n 1, 1) := by decide +kernel
theorem dX5_ranked_40 : decode cX5_ranked 40 = .ok (.iinc 4 1, 3) := by decide +kernel
theorem dX5_ranked_43 : decode cX5_ranked 43 = .ok (.goto (-30), 3) := by decide +kernel
theorem dX5_ranked_46 : decode cX5_ranked 46 = .ok (.iload_n 1, 1) := by decide +kernel
theorem dX5_ranked_47 : decode cX5_ranked 47 = .ok (.newarray .int, 2) := by decide +kernel
theorem dX5_ranked_49 : decode cX5_ranked 49 = .ok (.astore_n 2, 1) := by decide +kernel
theorem dX5_ranked_50 : decode cX5_ranked 50 = .ok (.aload_n 0, 1) := by decide +kernel
theorem dX5_ranked_51 : decode cX5_ranked 51 = .ok (.getfield 15, 3) := by decide +kernel
theorem dX5_ranked_54 : decode cX5_ranked 54 = .ok (.arraylength, 1) := by decide +kernel
theorem dX5_ranked_55 : decode cX5_ranked 55 = .ok (.newarray .int, 2) := by decide +kernel
theorem dX5_ranked_57 : decode cX5_ranked 57 = .ok (.astore_n 3, 1) := by decide +kernel
theorem dX5_ranked_58 : decode cX5_ranked 58 = .ok (.aload_n 0, 1) := by decide +kernel
theorem dX5_ranked_59 : decode cX5_ranked 59 = .ok (.invokevirtual 29, 3) := by decide +kernel
theorem dX5_ranked_62 : decode cX5_ranked 62 = .ok (.istore 4, 2) := by decide +kernel
theorem dX5_ranked_64 : decode cX5_ranked 64 = .ok (.iconst 0, 1) := by decide +kernel
theorem dX5_ranked_65 : decode cX5_ranked 65 = .ok (.istore 5, 2) := by decide +kernel
theorem dX5_ranked_67 : decode cX5_ranked 67 = .ok (.iload 5, 2) := by decide +kernel
theorem dX5_ranked_69 : decode cX5_ranked 69 = .ok (.aload_n 0, 1) := by decide +kernel
theorem dX5_ranked_70 : decode cX5_ranked 70 = .ok (.getfield 15, 3) := by decide +kernel
theorem dX5_ranked_73 : decode cX5_ranked 73 = .ok (.arraylength, 1) := by decide +kernel
theorem dX5_ranked_74 : decode cX5_ranked 74 = .ok (.if_icmp .ge 63, 3) := by decide +kernel
theorem dX5_ranked_77 : decode cX5_ranked 77 = .ok (.aload_n 3, 1) := by decide +kernel
theorem dX5_ranked_78 : decode cX5_ranked 78 = .ok (.iload 5, 2) := by decide +kernel
theorem dX5_ranked_80 : decode cX5_ranked 80 = .ok (.aload_n 0, 1) := by decide +kernel
theorem dX5_ranked_81 : decode cX5_ranked 81 = .ok (.getfield 15, 3) := by decide +kernel
theorem dX5_ranked_84 : decode cX5_ranked 84 = .ok (.iload 5, 2) := by decide +kernel
theorem dX5_ranked_86 : decode cX5_ranked 86 = .ok (.aaload, 1) := by decide +kernel
theorem dX5_ranked_87 : decode cX5_ranked 87 = .ok (.iconst 0, 1) := by decide +kernel
theorem dX5_ranked_88 : decode cX5_ranked 88 = .ok (.iaload, 1) := by decide +kernel
theorem dX5_ranked_89 : decode cX5_ranked 89 = .ok (.ifCond .ne 7, 3) := by decide +kernel
theorem dX5_ranked_92 : decode cX5_ranked 92 = .ok (.iconst (-1), 1) := by decide +kernel
theorem dX5_ranked_93 : decode cX5_ranked 93 = .ok (.goto 37, 3) := by decide +kernel
theorem dX5_ranked_96 : decode cX5_ranked 96 = .ok (.sipush 1000, 3) := by decide +kernel
theorem dX5_ranked_99 : decode cX5_ranked 99 = .ok (.aload_n 0, 1) := by decide +kernel
theorem dX5_ranked_100 : decode cX5_ranked 100 = .ok (.iload 5, 2) := by decide +kernel
theorem dX5_ranked_102 : decode cX5_ranked 102 = .ok (.iload 4, 2) := by decide +kernel
theorem dX5_ranked_104 : decode cX5_ranked 104 = .ok (.invokevirtual 33, 3) := by decide +kernel
theorem dX5_ranked_107 : decode cX5_ranked 107 = .ok (.imul, 1) := by decide +kernel
theorem dX5_ranked_108 : decode cX5_ranked 108 = .ok (.bipush 100, 2) := by decide +kernel
theorem dX5_ranked_110 : decode cX5_ranked 110 = .ok (.bipush 9, 2) := by decide +kernel
theorem dX5_ranked_112 : decode cX5_ranked 112 = .ok (.aload_n 0, 1) := by decide +kernel
theorem dX5_ranked_113 : decode cX5_ranked 113 = .ok (.getfield 15, 3) := by decide +kernel
theorem dX5_ranked_116 : decode cX5_ranked 116 = .ok (.iload 5, 2) := by decide +kernel
theorem dX5_ranked_118 : decode cX5_ranked 118 = .ok (.aaload, 1) := by decide +kernel
theorem dX5_ranked_119 : decode cX5_ranked 119 = .ok (.iconst 3, 1) := by decide +kernel
theorem dX5_ranked_120 : decode cX5_ranked 120 = .ok (.iaload, 1) := by decide +kernel
theorem dX5_ranked_121 : decode cX5_ranked 121 = .ok (.isub, 1) := by decide +kernel
theorem dX5_ranked_122 : decode cX5_ranked 122 = .ok (.imul, 1) := by decide +kernel
theorem dX5_ranked_123 : decode cX5_ranked 123 = .ok (.iadd, 1) := by decide +kernel
theorem dX5_ranked_124 : decode cX5_ranked 124 = .ok (.bipush 10, 2) := by decide +kernel
theorem dX5_ranked_126 : decode cX5_ranked 126 = .ok (.iadd, 1) := by decide +kernel
theorem dX5_ranked_127 : decode cX5_ranked 127 = .ok (.iload 5, 2) := by decide +kernel
theorem dX5_ranked_129 : decode cX5_ranked 129 = .ok (.isub, 1) := by decide +kernel
theorem dX5_ranked_130 : decode cX5_ranked 130 = .ok (.iastore, 1) := by decide +kernel
theorem dX5_ranked_131 : decode cX5_ranked 131 = .ok (.iinc 5 1, 3) := by decide +kernel
theorem dX5_ranked_134 : decode cX5_ranked 134 = .ok (.goto (-67), 3) := by decide +kernel
theorem dX5_ranked_137 : decode cX5_ranked 137 = .ok (.iconst 0, 1) := by decide +kernel
theorem dX5_ranked_138 : decode cX5_ranked 138 = .ok (.istore 5, 2) := by decide +kernel
theorem dX5_ranked_140 : decode cX5_ranked 140 = .ok (.iload 5, 2) := by decide +kernel
theorem dX5_ranked_142 : decode cX5_ranked 142 = .ok (.iload_n 1, 1) := by decide +kernel
theorem dX5_ranked_143 : decode cX5_ranked 143 = .ok (.if_icmp .ge 54, 3) := by decide +kernel
theorem dX5_ranked_146 : decode cX5_ranked 146 = .ok (.iconst 0, 1) := by decide +kernel
theorem dX5_ranked_147 : decode cX5_ranked 147 = .ok (.istore 6, 2) := by decide +kernel
theorem dX5_ranked_149 : decode cX5_ranked 149 = .ok (.iconst 1, 1) := by decide +kernel
theorem dX5_ranked_150 : decode cX5_ranked 150 = .ok (.istore 7, 2) := by decide +kernel
theorem dX5_ranked_152 : decode cX5_ranked 152 = .ok (.iload 7, 2) := by decide +kernel
theorem dX5_ranked_154 : decode cX5_ranked 154 = .ok (.aload_n 3, 1) := by decide +kernel
theorem dX5_ranked_155 : decode cX5_ranked 155 = .ok (.arraylength, 1) := by decide +kernel
theorem dX5_ranked_156 : decode cX5_ranked 156 = .ok (.if_icmp .ge 24, 3) := by decide +kernel
theorem dX5_ranked_159 : decode cX5_ranked 159 = .ok (.aload_n 3, 1) := by decide +kernel
theorem dX5_ranked_160 : decode cX5_ranked 160 = .ok (.iload 7, 2) := by decide +kernel
theorem dX5_ranked_162 : decode cX5_ranked 162 = .ok (.iaload, 1) := by decide +kernel
theorem dX5_ranked_163 : decode cX5_ranked 163 = .ok (.aload_n 3, 1) := by decide +kernel
theorem dX5_ranked_164 : decode cX5_ranked 164 = .ok (.iload 6, 2) := by decide +kernel
theorem dX5_ranked_166 : decode cX5_ranked 166 = .ok (.iaload, 1) := by decide +kernel
theorem dX5_ranked_167 : decode cX5_ranked 167 = .ok (.if_icmp .le 7, 3) := by decide +kernel
theorem dX5_ranked_170 : decode cX5_ranked 170 = .ok (.iload 7, 2) := by decide +kernel
theorem dX5_ranked_172 : decode cX5_ranked 172 = .ok (.istore 6, 2) := by decide +kernel
theorem dX5_ranked_174 : decode cX5_ranked 174 = .ok (.iinc 7 1, 3) := by decide +kernel
theorem dX5_ranked_177 : decode cX5_ranked 177 = .ok (.goto (-25), 3) := by decide +kernel
theorem dX5_ranked_180 : decode cX5_ranked 180 = .ok (.aload_n 2, 1) := by decide +kernel
theorem dX5_ranked_181 : decode cX5_ranked 181 = .ok (.iload 5, 2) := by decide +kernel
theorem dX5_ranked_183 : decode cX5_ranked 183 = .ok (.iload 6, 2) := by decide +kernel
theorem dX5_ranked_185 : decode cX5_ranked 185 = .ok (.iastore, 1) := by decide +kernel
theorem dX5_ranked_186 : decode cX5_ranked 186 = .ok (.aload_n 3, 1) := by decide +kernel
theorem dX5_ranked_187 : decode cX5_ranked 187 = .ok (.iload 6, 2) := by decide +kernel
theorem dX5_ranked_189 : decode cX5_ranked 189 = .ok (.iconst (-1), 1) := by decide +kernel
theorem dX5_ranked_190 : decode cX5_ranked 190 = .ok (.iastore, 1) := by decide +kernel
theorem dX5_ranked_191 : decode cX5_ranked 191 = .ok (.iinc 5 1, 3) := by decide +kernel
theorem dX5_ranked_194 : decode cX5_ranked 194 = .ok (.goto (-54), 3) := by decide +kernel
theorem dX5_ranked_197 : decode cX5_ranked 197 = .ok (.aload_n 2, 1) := by decide +kernel
theorem dX5_ranked_198 : decode cX5_ranked 198 = .ok (.areturn, 1) := by decide +kernel
set_option maxRecDepth 20000 in
theorem ggX5_pass_X5_ranked : GoodIn wsX5_pass wsX5_ranked := goodIn_r _ [10, 3, 11, 12, 13, 14, 9, 15, 5, 16, 17, 18, 19, 20, 21, 22, 23, 24, 25, 26, 27] (by decide +kernel) (by decide +kernel)
set_option maxRecDepth 20000 in
theorem gX5_pass_X5_ranked : GoodIn wsX5_pass (wsV RX5 40 RX5 yX5_ranked wsX5_ranked) := goodIn_app (goodIn_of _ (by decide +kernel)) ggX5_pass_X5_ranked
set_option maxRecDepth 20000 in
theorem ggX5_pass_X5_moon : GoodIn wsX5_pass wsX5_moon := goodIn_r _ [15, 11, 5, 23, 24, 25, 26, 27] (by decide +kernel) (by decide +kernel)
set_option maxRecDepth 20000 in
theorem gX5_pass_X5_moon : GoodIn wsX5_pass (wsV RX5 29 RX5 yX5_moon wsX5_moon) := goodIn_app (goodIn_of _ (by decide +kernel)) ggX5_pass_X5_moon
set_option maxRecDepth 20000 in
theorem ggX5_pass_X5_grade : GoodIn wsX5_pass wsX5_grade := goodIn_r _ [22] (by decide +kernel) (by decide +kernel)
set_option maxRecDepth 20000 in
theorem gX5_pass_X5_grade : GoodIn wsX5_pass (va_wsS RX5 25 yX5_grade wsX5_grade) := goodIn_app (goodIn_of _ (by decide +kernel)) ggX5_pass_X5_grade
theorem dX5_pass_0 : decode cX5_pass 0 = .ok (.aload_n 0, 1) := by decide +kernel
theorem dX5_pass_1 : decode cX5_pass 1 = .ok (.getfield 37, 3) := by decide +kernel
theorem dX5_pass_4 : decode cX5_pass 4 = .ok (.istore_n 1, 1) := by decide +kernel
theorem dX5_pass_5 : decode cX5_pass 5 = .ok (.aload_n 0, 1) := by decide +kernel
theorem dX5_pass_6 : decode cX5_pass 6 = .ok (.getfield 7, 3) := by decide +kernel
theorem dX5_pass_9 : decode cX5_pass 9 = .ok (.istore_n 2, 1) := by decide +kernel
theorem dX5_pass_10 : decode cX5_pass 10 = .ok (.aload_n 0, 1) := by decide +kernel
theorem dX5_pass_11 : decode cX5_pass 11 = .ok (.invokevirtual 40, 3) := by decide +kernel
theorem dX5_pass_14 : decode cX5_pass 14 = .ok (.astore_n 3, 1) := by decide +kernel
theorem dX5_pass_15 : decode cX5_pass 15 = .ok (.aload_n 3, 1) := by decide +kernel
theorem dX5_pass_16 : decode cX5_pass 16 = .ok (.arraylength, 1) := by decide +kernel
theorem dX5_pass_17 : decode cX5_pass 17 = .ok (.istore 4, 2) := by decide +kernel
theorem dX5_pass_19 : decode cX5_pass 19 = .ok (.iconst 0, 1) := by decide +kernel
theorem dX5_pass_20 : decode cX5_pass 20 = .ok (.istore 5, 2) := by decide +kernel
theorem dX5_pass_22 : decode cX5_pass 22 = .ok (.iload 5, 2) := by decide +kernel
theorem dX5_pass_24 : decode cX5_pass 24 = .ok (.iload 4, 2) := by decide +kernel
theorem dX5_pass_26 : decode cX5_pass 26 = .ok (.if_icmp .ge 48, 3) := by decide +kernel
theorem dX5_pass_29 : decode cX5_pass 29 = .ok (.aload_n 3, 1) := by decide +kernel
theorem dX5_pass_30 : decode cX5_pass 30 = .ok (.iload 5, 2) := by decide +kernel
theorem dX5_pass_32 : decode cX5_pass 32 = .ok (.iaload, 1) := by decide +kernel
theorem dX5_pass_33 : decode cX5_pass 33 = .ok (.istore 6, 2) := by decide +kernel
theorem dX5_pass_35 : decode cX5_pass 35 = .ok (.iload_n 2, 1) := by decide +kernel
theorem dX5_pass_36 : decode cX5_pass 36 = .ok (.iconst 1, 1) := by decide +kernel
theorem dX5_pass_37 : decode cX5_pass 37 = .ok (.iadd, 1) := by decide +kernel
theorem dX5_pass_38 : decode cX5_pass 38 = .ok (.iconst 2, 1) := by decide +kernel
theorem dX5_pass_39 : decode cX5_pass 39 = .ok (.idiv, 1) := by decide +kernel
theorem dX5_pass_40 : decode cX5_pass 40 = .ok (.istore 7, 2) := by decide +kernel
theorem dX5_pass_42 : decode cX5_pass 42 = .ok (.aload_n 0, 1) := by decide +kernel
theorem dX5_pass_43 : decode cX5_pass 43 = .ok (.dup, 1) := by decide +kernel
theorem dX5_pass_44 : decode cX5_pass 44 = .ok (.getfield 37, 3) := by decide +kernel
theorem dX5_pass_47 : decode cX5_pass 47 = .ok (.iload 7, 2) := by decide +kernel
theorem dX5_pass_49 : decode cX5_pass 49 = .ok (.aload_n 0, 1) := by decide +kernel
theorem dX5_pass_50 : decode cX5_pass 50 = .ok (.getfield 15, 3) := by decide +kernel
theorem dX5_pass_53 : decode cX5_pass 53 = .ok (.iload 6, 2) := by decide +kernel
theorem dX5_pass_55 : decode cX5_pass 55 = .ok (.aaload, 1) := by decide +kernel
theorem dX5_pass_56 : decode cX5_pass 56 = .ok (.iconst 3, 1) := by decide +kernel
theorem dX5_pass_57 : decode cX5_pass 57 = .ok (.iaload, 1) := by decide +kernel
theorem dX5_pass_58 : decode cX5_pass 58 = .ok (.imul, 1) := by decide +kernel
theorem dX5_pass_59 : decode cX5_pass 59 = .ok (.iadd, 1) := by decide +kernel
theorem dX5_pass_60 : decode cX5_pass 60 = .ok (.putfield 37, 3) := by decide +kernel
theorem dX5_pass_63 : decode cX5_pass 63 = .ok (.iload_n 2, 1) := by decide +kernel
theorem dX5_pass_64 : decode cX5_pass 64 = .ok (.iload 7, 2) := by decide +kernel
theorem dX5_pass_66 : decode cX5_pass 66 = .ok (.isub, 1) := by decide +kernel
theorem dX5_pass_67 : decode cX5_pass 67 = .ok (.istore_n 2, 1) := by decide +kernel
theorem dX5_pass_68 : decode cX5_pass 68 = .ok (.iinc 5 1, 3) := by decide +kernel
theorem dX5_pass_71 : decode cX5_pass 71 = .ok (.goto (-49), 3) := by decide +kernel
theorem dX5_pass_74 : decode cX5_pass 74 = .ok (.aload_n 0, 1) := by decide +kernel
theorem dX5_pass_75 : decode cX5_pass 75 = .ok (.getfield 19, 3) := by decide +kernel
theorem dX5_pass_78 : decode cX5_pass 78 = .ok (.astore_n 3, 1) := by decide +kernel
theorem dX5_pass_79 : decode cX5_pass 79 = .ok (.aload_n 3, 1) := by decide +kernel
theorem dX5_pass_80 : decode cX5_pass 80 = .ok (.arraylength, 1) := by decide +kernel
theorem dX5_pass_81 : decode cX5_pass 81 = .ok (.istore 4, 2) := by decide +kernel
theorem dX5_pass_83 : decode cX5_pass 83 = .ok (.iconst 0, 1) := by decide +kernel
theorem dX5_pass_84 : decode cX5_pass 84 = .ok (.istore 5, 2) := by decide +kernel
theorem dX5_pass_86 : decode cX5_pass 86 = .ok (.iload 5, 2) := by decide +kernel
theorem dX5_pass_88 : decode cX5_pass 88 = .ok (.iload 4, 2) := by decide +kernel
theorem dX5_pass_90 : decode cX5_pass 90 = .ok (.if_icmp .ge 80, 3) := by decide +kernel
theorem dX5_pass_93 : decode cX5_pass 93 = .ok (.aload_n 3, 1) := by decide +kernel
theorem dX5_pass_94 : decode cX5_pass 94 = .ok (.iload 5, 2) := by decide +kernel
theorem dX5_pass_96 : decode cX5_pass 96 = .ok (.aaload, 1) := by decide +kernel
theorem dX5_pass_97 : decode cX5_pass 97 = .ok (.astore 6, 2) := by decide +kernel
theorem dX5_pass_99 : decode cX5_pass 99 = .ok (.aload 6, 2) := by decide +kernel
theorem dX5_pass_101 : decode cX5_pass 101 = .ok (.iconst 1, 1) := by decide +kernel
theorem dX5_pass_102 : decode cX5_pass 102 = .ok (.iaload, 1) := by decide +kernel
theorem dX5_pass_103 : decode cX5_pass 103 = .ok (.aload_n 0, 1) := by decide +kernel
theorem dX5_pass_104 : decode cX5_pass 104 = .ok (.getfield 22, 3) := by decide +kernel
theorem dX5_pass_107 : decode cX5_pass 107 = .ok (.if_icmp .ne 57, 3) := by decide +kernel
theorem dX5_pass_110 : decode cX5_pass 110 = .ok (.aload 6, 2) := by decide +kernel
theorem dX5_pass_112 : decode cX5_pass 112 = .ok (.iconst 3, 1) := by decide +kernel
theorem dX5_pass_113 : decode cX5_pass 113 = .ok (.iaload, 1) := by decide +kernel
theorem dX5_pass_114 : decode cX5_pass 114 = .ok (.ifCond .le 6, 3) := by decide +kernel
theorem dX5_pass_117 : decode cX5_pass 117 = .ok (.goto 47, 3) := by decide +kernel
theorem dX5_pass_120 : decode cX5_pass 120 = .ok (.aload 6, 2) := by decide +kernel
theorem dX5_pass_122 : decode cX5_pass 122 = .ok (.iconst 3, 1) := by decide +kernel
theorem dX5_pass_123 : decode cX5_pass 123 = .ok (.aload_n 0, 1) := by decide +kernel
theorem dX5_pass_124 : decode cX5_pass 124 = .ok (.getfield 15, 3) := by decide +kernel
theorem dX5_pass_127 : decode cX5_pass 127 = .ok (.aload 6, 2) := by decide +kernel
theorem dX5_pass_129 : decode cX5_pass 129 = .ok (.iconst 0, 1) := by decide +kernel
theorem dX5_pass_130 : decode cX5_pass 130 = .ok (.iaload, 1) := by decide +kernel
theorem dX5_pass_131 : decode cX5_pass 131 = .ok (.aaload, 1) := by decide +kernel
theorem dX5_pass_132 : decode cX5_pass 132 = .ok (.iconst 0, 1) := by decide +kernel
theorem dX5_pass_133 : decode cX5_pass 133 = .ok (.iaload, 1) := by decide +kernel
theorem dX5_pass_134 : decode cX5_pass 134 = .ok (.ifCond .le 7, 3) := by decide +kernel
theorem dX5_pass_137 : decode cX5_pass 137 = .ok (.iconst 1, 1) := by decide +kernel
theorem dX5_pass_138 : decode cX5_pass 138 = .ok (.goto 4, 3) := by decide +kernel
theorem dX5_pass_141 : decode cX5_pass 141 = .ok (.iconst 2, 1) := by decide +kernel
theorem dX5_pass_142 : decode cX5_pass 142 = .ok (.iastore, 1) := by decide +kernel
theorem dX5_pass_143 : decode cX5_pass 143 = .ok (.aload 6, 2) := by decide +kernel
theorem dX5_pass_145 : decode cX5_pass 145 = .ok (.iconst 3, 1) := by decide +kernel
theorem dX5_pass_146 : decode cX5_pass 146 = .ok (.iaload, 1) := by decide +kernel
theorem dX5_pass_147 : decode cX5_pass 147 = .ok (.iconst 2, 1) := by decide +kernel
theorem dX5_pass_148 : decode cX5_pass 148 = .ok (.if_icmp .ne 16, 3) := by decide +kernel
theorem dX5_pass_151 : decode cX5_pass 151 = .ok (.aload_n 0, 1) := by decide +kernel
theorem dX5_pass_152 : decode cX5_pass 152 = .ok (.dup, 1) := by decide +kernel
theorem dX5_pass_153 : decode cX5_pass 153 = .ok (.getfield 37, 3) := by decide +kernel
theorem dX5_pass_156 : decode cX5_pass 156 = .ok (.aload 6, 2) := by decide +kernel
theorem dX5_pass_158 : decode cX5_pass 158 = .ok (.iconst 2, 1) := by decide +kernel
theorem dX5_pass_159 : decode cX5_pass 159 = .ok (.iaload, 1) := by decide +kernel
theorem dX5_pass_160 : decode cX5_pass 160 = .ok (.isub, 1) := by decide +kernel
theorem dX5_pass_161 : decode cX5_pass 161 = .ok (.putfield 37, 3) := by decide +kernel
theorem dX5_pass_164 : decode cX5_pass 164 = .ok (.iinc 5 1, 3) := by decide +kernel
theorem dX5_pass_167 : decode cX5_pass 167 = .ok (.goto (-81), 3) := by decide +kernel
theorem dX5_pass_170 : decode cX5_pass 170 = .ok (.aload_n 0, 1) := by decide +kernel
theorem dX5_pass_171 : decode cX5_pass 171 = .ok (.invokevirtual 29, 3) := by decide +kernel
theorem dX5_pass_174 : decode cX5_pass 174 = .ok (.istore_n 3, 1) := by decide +kernel
theorem dX5_pass_175 : decode cX5_pass 175 = .ok (.aload_n 0, 1) := by decide +kernel
theorem dX5_pass_176 : decode cX5_pass 176 = .ok (.getfield 15, 3) := by decide +kernel
theorem dX5_pass_179 : decode cX5_pass 179 = .ok (.astore 4, 2) := by decide +kernel
theorem dX5_pass_181 : decode cX5_pass 181 = .ok (.aload 4, 2) := by decide +kernel
theorem dX5_pass_183 : decode cX5_pass 183 = .ok (.arraylength, 1) := by decide +kernel
theorem dX5_pass_184 : decode cX5_pass 184 = .ok (.istore 5, 2) := by decide +kernel
theorem dX5_pass_186 : decode cX5_pass 186 = .ok (.iconst 0, 1) := by decide +kernel
theorem dX5_pass_187 : decode cX5_pass 187 = .ok (.istore 6, 2) := by decide +kernel
theorem dX5_pass_189 : decode cX5_pass 189 = .ok (.iload 6, 2) := by decide +kernel
theorem dX5_pass_191 : decode cX5_pass 191 = .ok (.iload 5, 2) := by decide +kernel
theorem dX5_pass_193 : decode cX5_pass 193 = .ok (.if_icmp .ge 142, 3) := by decide +kernel
theorem dX5_pass_196 : decode cX5_pass 196 = .ok (.aload 4, 2) := by decide +kernel
theorem dX5_pass_198 : decode cX5_pass 198 = .ok (.iload 6, 2) := by decide +kernel
theorem dX5_pass_200 : decode cX5_pass 200 = .ok (.aaload, 1) := by decide +kernel
theorem dX5_pass_201 : decode cX5_pass 201 = .ok (.astore 7, 2) := by decide +kernel
theorem dX5_pass_203 : decode cX5_pass 203 = .ok (.aload 7, 2) := by decide +kernel
theorem dX5_pass_205 : decode cX5_pass 205 = .ok (.iconst 0, 1) := by decide +kernel
theorem dX5_pass_206 : decode cX5_pass 206 = .ok (.iaload, 1) := by decide +kernel
theorem dX5_pass_207 : decode cX5_pass 207 = .ok (.ifCond .le 48, 3) := by decide +kernel
theorem dX5_pass_210 : decode cX5_pass 210 = .ok (.aload_n 0, 1) := by decide +kernel
theorem dX5_pass_211 : decode cX5_pass 211 = .ok (.getfield 22, 3) := by decide +kernel
theorem dX5_pass_214 : decode cX5_pass 214 = .ok (.iconst 1, 1) := by decide +kernel
theorem dX5_pass_215 : decode cX5_pass 215 = .ok (.iadd, 1) := by decide +kernel
theorem dX5_pass_216 : decode cX5_pass 216 = .ok (.iconst 3, 1) := by decide +kernel
theorem dX5_pass_217 : decode cX5_pass 217 = .ok (.irem, 1) := by decide +kernel
theorem dX5_pass_218 : decode cX5_pass 218 = .ok (.ifCond .ne 20, 3) := by decide +kernel
theorem dX5_pass_221 : decode cX5_pass 221 = .ok (.aload 7, 2) := by decide +kernel
theorem dX5_pass_223 : decode cX5_pass 223 = .ok (.iconst 1, 1) := by decide +kernel
theorem dX5_pass_224 : decode cX5_pass 224 = .ok (.iaload, 1) := by decide +kernel
theorem dX5_pass_225 : decode cX5_pass 225 = .ok (.bipush 12, 2) := by decide +kernel
theorem dX5_pass_227 : decode cX5_pass 227 = .ok (.if_icmp .ge 11, 3) := by decide +kernel
theorem dX5_pass_230 : decode cX5_pass 230 = .ok (.aload 7, 2) := by decide +kernel
theorem dX5_pass_232 : decode cX5_pass 232 = .ok (.iconst 1, 1) := by decide +kernel
theorem dX5_pass_233 : decode cX5_pass 233 = .ok (.dup2, 1) := by decide +kernel
theorem dX5_pass_234 : decode cX5_pass 234 = .ok (.iaload, 1) := by decide +kernel
theorem dX5_pass_235 : decode cX5_pass 235 = .ok (.iconst 1, 1) := by decide +kernel
theorem dX5_pass_236 : decode cX5_pass 236 = .ok (.iadd, 1) := by decide +kernel
theorem dX5_pass_237 : decode cX5_pass 237 = .ok (.iastore, 1) := by decide +kernel
theorem dX5_pass_238 : decode cX5_pass 238 = .ok (.aload 7, 2) := by decide +kernel
theorem dX5_pass_240 : decode cX5_pass 240 = .ok (.iconst 1, 1) := by decide +kernel
theorem dX5_pass_241 : decode cX5_pass 241 = .ok (.iaload, 1) := by decide +kernel
theorem dX5_pass_242 : decode cX5_pass 242 = .ok (.bipush 10, 2) := by decide +kernel
theorem dX5_pass_244 : decode cX5_pass 244 = .ok (.if_icmp .lt 11, 3) := by decide +kernel
theorem dX5_pass_247 : decode cX5_pass 247 = .ok (.aload 7, 2) := by decide +kernel
theorem dX5_pass_249 : decode cX5_pass 249 = .ok (.iconst 0, 1) := by decide +kernel
theorem dX5_pass_250 : decode cX5_pass 250 = .ok (.dup2, 1) := by decide +kernel
theorem dX5_pass_251 : decode cX5_pass 251 = .ok (.iaload, 1) := by decide +kernel
theorem dX5_pass_252 : decode cX5_pass 252 = .ok (.iconst 1, 1) := by decide +kernel
theorem dX5_pass_253 : decode cX5_pass 253 = .ok (.isub, 1) := by decide +kernel
theorem dX5_pass_254 : decode cX5_pass 254 = .ok (.iastore, 1) := by decide +kernel
theorem dX5_pass_255 : decode cX5_pass 255 = .ok (.aload 7, 2) := by decide +kernel
theorem dX5_pass_257 : decode cX5_pass 257 = .ok (.iconst 1, 1) := by decide +kernel
theorem dX5_pass_258 : decode cX5_pass 258 = .ok (.iaload, 1) := by decide +kernel
theorem dX5_pass_259 : decode cX5_pass 259 = .ok (.invokestatic 25, 3) := by decide +kernel
theorem dX5_pass_262 : decode cX5_pass 262 = .ok (.istore 8, 2) := by decide +kernel
theorem dX5_pass_264 : decode cX5_pass 264 = .ok (.iload_n 3, 1) := by decide +kernel
theorem dX5_pass_265 : decode cX5_pass 265 = .ok (.iconst 4, 1) := by decide +kernel
theorem dX5_pass_266 : decode cX5_pass 266 = .ok (.if_icmp .ne 32, 3) := by decide +kernel
theorem dX5_pass_269 : decode cX5_pass 269 = .ok (.aload 7, 2) := by decide +kernel
theorem dX5_pass_271 : decode cX5_pass 271 = .ok (.iconst 0, 1) := by decide +kernel
theorem dX5_pass_272 : decode cX5_pass 272 = .ok (.iaload, 1) := by decide +kernel
theorem dX5_pass_273 : decode cX5_pass 273 = .ok (.ifCond .le 25, 3) := by decide +kernel
theorem dX5_pass_276 : decode cX5_pass 276 = .ok (.iload 8, 2) := by decide +kernel
theorem dX5_pass_278 : decode cX5_pass 278 = .ok (.iconst 3, 1) := by decide +kernel
theorem dX5_pass_279 : decode cX5_pass 279 = .ok (.if_icmp .ne 19, 3) := by decide +kernel
theorem dX5_pass_282 : decode cX5_pass 282 = .ok (.aload 7, 2) := by decide +kernel
theorem dX5_pass_284 : decode cX5_pass 284 = .ok (.iconst 2, 1) := by decide +kernel
theorem dX5_pass_285 : decode cX5_pass 285 = .ok (.iaload, 1) := by decide +kernel
theorem dX5_pass_286 : decode cX5_pass 286 = .ok (.iconst 5, 1) := by decide +kernel
theorem dX5_pass_287 : decode cX5_pass 287 = .ok (.if_icmp .ge 11, 3) := by decide +kernel
theorem dX5_pass_290 : decode cX5_pass 290 = .ok (.aload 7, 2) := by decide +kernel
theorem dX5_pass_292 : decode cX5_pass 292 = .ok (.iconst 2, 1) := by decide +kernel
theorem dX5_pass_293 : decode cX5_pass 293 = .ok (.dup2, 1) := by decide +kernel
theorem dX5_pass_294 : decode cX5_pass 294 = .ok (.iaload, 1) := by decide +kernel
theorem dX5_pass_295 : decode cX5_pass 295 = .ok (.iconst 1, 1) := by decide +kernel
theorem dX5_pass_296 : decode cX5_pass 296 = .ok (.iadd, 1) := by decide +kernel
theorem dX5_pass_297 : decode cX5_pass 297 = .ok (.iastore, 1) := by decide +kernel
theorem dX5_pass_298 : decode cX5_pass 298 = .ok (.iload_n 3, 1) := by decide +kernel
theorem dX5_pass_299 : decode cX5_pass 299 = .ok (.ifCond .ne 30, 3) := by decide +kernel
theorem dX5_pass_302 : decode cX5_pass 302 = .ok (.aload 7, 2) := by decide +kernel
theorem dX5_pass_304 : decode cX5_pass 304 = .ok (.iconst 2, 1) := by decide +kernel
theorem dX5_pass_305 : decode cX5_pass 305 = .ok (.iaload, 1) := by decide +kernel
theorem dX5_pass_306 : decode cX5_pass 306 = .ok (.ifCond .le 23, 3) := by decide +kernel
theorem dX5_pass_309 : decode cX5_pass 309 = .ok (.iload 8, 2) := by decide +kernel
theorem dX5_pass_311 : decode cX5_pass 311 = .ok (.ifCond .eq 10, 3) := by decide +kernel
theorem dX5_pass_314 : decode cX5_pass 314 = .ok (.aload 7, 2) := by decide +kernel
theorem dX5_pass_316 : decode cX5_pass 316 = .ok (.iconst 0, 1) := by decide +kernel
theorem dX5_pass_317 : decode cX5_pass 317 = .ok (.iaload, 1) := by decide +kernel
theorem dX5_pass_318 : decode cX5_pass 318 = .ok (.ifCond .ne 11, 3) := by decide +kernel
theorem dX5_pass_321 : decode cX5_pass 321 = .ok (.aload 7, 2) := by decide +kernel
theorem dX5_pass_323 : decode cX5_pass 323 = .ok (.iconst 2, 1) := by decide +kernel
theorem dX5_pass_324 : decode cX5_pass 324 = .ok (.dup2, 1) := by decide +kernel
theorem dX5_pass_325 : decode cX5_pass 325 = .ok (.iaload, 1) := by decide +kernel
theorem dX5_pass_326 : decode cX5_pass 326 = .ok (.iconst 1, 1) := by decide +kernel
theorem dX5_pass_327 : decode cX5_pass 327 = .ok (.isub, 1) := by decide +kernel
theorem dX5_pass_328 : decode cX5_pass 328 = .ok (.iastore, 1) := by decide +kernel
theorem dX5_pass_329 : decode cX5_pass 329 = .ok (.iinc 6 1, 3) := by decide +kernel
theorem dX5_pass_332 : decode cX5_pass 332 = .ok (.goto (-143), 3) := by decide +kernel
theorem dX5_pass_335 : decode cX5_pass 335 = .ok (.aload_n 0, 1) := by decide +kernel
theorem dX5_pass_336 : decode cX5_pass 336 = .ok (.dup, 1) := by decide +kernel
theorem dX5_pass_337 : decode cX5_pass 337 = .ok (.getfield 22, 3) := by decide +kernel
theorem dX5_pass_340 : decode cX5_pass 340 = .ok (.iconst 1, 1) := by decide +kernel
theorem dX5_pass_341 : decode cX5_pass 341 = .ok (.iadd, 1) := by decide +kernel
theorem dX5_pass_342 : decode cX5_pass 342 = .ok (.putfield 22, 3) := by decide +kernel
theorem dX5_pass_345 : decode cX5_pass 345 = .ok (.aload_n 0, 1) := by decide +kernel
theorem dX5_pass_346 : decode cX5_pass 346 = .ok (.getfield 37, 3) := by decide +kernel
theorem dX5_pass_349 : decode cX5_pass 349 = .ok (.iload_n 1, 1) := by decide +kernel
theorem dX5_pass_350 : decode cX5_pass 350 = .ok (.isub, 1) := by decide +kernel
theorem dX5_pass_351 : decode cX5_pass 351 = .ok (.ireturn, 1) := by decide +kernel
set_option maxRecDepth 20000 in
theorem ggX5_behind_X5_pass : GoodIn wsX5_behind wsX5_pass := goodIn_r _ [5, 6, 7, 8, 9, 10, 11, 12, 13, 4, 14, 15, 16, 17, 18, 19, 20, 21, 22, 23, 24, 25, 26, 27, 28, 29, 30, 31] (by decide +kernel) (by decide +kernel)
set_option maxRecDepth 20000 in
theorem gX5_behind_X5_pass : GoodIn wsX5_behind (wsV RX5 44 RX5 yX5_pass wsX5_pass) := goodIn_app (goodIn_of _ (by decide +kernel)) ggX5_behind_X5_pass
theorem dX5_behind_0 : decode cX5_behind 0 = .ok (.iconst 0, 1) := by decide +kernel
theorem dX5_behind_1 : decode cX5_behind 1 = .ok (.istore_n 2, 1) := by decide +kernel
theorem dX5_behind_2 : decode cX5_behind 2 = .ok (.iconst 0, 1) := by decide +kernel
theorem dX5_behind_3 : decode cX5_behind 3 = .ok (.istore_n 3, 1) := by decide +kernel
theorem dX5_behind_4 : decode cX5_behind 4 = .ok (.iload_n 3, 1) := by decide +kernel
theorem dX5_behind_5 : decode cX5_behind 5 = .ok (.iload_n 1, 1) := by decide +kernel
theorem dX5_behind_6 : decode cX5_behind 6 = .ok (.if_icmp .ge 16, 3) := by decide +kernel
theorem dX5_behind_9 : decode cX5_behind 9 = .ok (.iload_n 2, 1) := by decide +kernel
theorem dX5_behind_10 : decode cX5_behind 10 = .ok (.aload_n 0, 1) := by decide +kernel
theorem dX5_behind_11 : decode cX5_behind 11 = .ok (.invokevirtual 44, 3) := by decide +kernel
theorem dX5_behind_14 : decode cX5_behind 14 = .ok (.iadd, 1) := by decide +kernel
theorem dX5_behind_15 : decode cX5_behind 15 = .ok (.istore_n 2, 1) := by decide +kernel
theorem dX5_behind_16 : decode cX5_behind 16 = .ok (.iinc 3 1, 3) := by decide +kernel
theorem dX5_behind_19 : decode cX5_behind 19 = .ok (.goto (-15), 3) := by decide +kernel
theorem dX5_behind_22 : decode cX5_behind 22 = .ok (.iload_n 2, 1) := by decide +kernel
theorem dX5_behind_23 : decode cX5_behind 23 = .ok (.ireturn, 1) := by decide +kernel
set_option maxRecDepth 20000 in
theorem ggX5_isSame_X5_ranked : GoodIn wsX5_isSame wsX5_ranked := goodIn_r _ [10, 2, 11, 12, 13, 14, 9, 15, 1, 16, 17, 18, 19, 20, 21, 22, 215, 216, 217, 218, 219] (by decide +kernel) (by decide +kernel)
set_option maxRecDepth 20000 in
theorem gX5_isSame_X5_ranked : GoodIn wsX5_isSame (wsV RX5 40 RX5 yX5_ranked wsX5_ranked) := goodIn_app (goodIn_of _ (by decide +kernel)) ggX5_isSame_X5_ranked
set_option maxRecDepth 20000 in
theorem ggX5_isSame_X4_day : GoodIn wsX5_isSame wsX4_day := goodIn_r _ [27, 28, 29, 220, 221, 222, 223, 224, 225, 226] (by decide +kernel) (by decide +kernel)
set_option maxRecDepth 20000 in
theorem gX5_isSame_X4_day : GoodIn wsX5_isSame (wsV RX5 52 RX4 yX4_day wsX4_day) := goodIn_app (goodIn_of _ (by decide +kernel)) ggX5_isSame_X4_day
set_option maxRecDepth 20000 in
theorem ggX5_isSame_X4_phase : GoodIn wsX5_isSame wsX4_phase := goodIn_r _ [33, 28, 29, 34, 35, 36, 37, 220, 221, 222, 223, 224, 225, 226] (by decide +kernel) (by decide +kernel)
set_option maxRecDepth 20000 in
theorem gX5_isSame_X4_phase : GoodIn wsX5_isSame (wsV RX5 56 RX4 yX4_phase wsX4_phase) := goodIn_app (goodIn_of _ (by decide +kernel)) ggX5_isSame_X4_phase
set_option maxRecDepth 20000 in
theorem ggX5_isSame_X4_brightness : GoodIn wsX5_isSame wsX4_brightness := goodIn_r _ [41, 28, 29, 42, 43, 36, 44, 45, 35, 37, 220, 221, 222, 223, 224, 225, 226] (by decide +kernel) (by decide +kernel)
set_option maxRecDepth 20000 in
theorem gX5_isSame_X4_brightness : GoodIn wsX5_isSame (wsV RX5 59 RX4 yX4_brightness wsX4_brightness) := goodIn_app (goodIn_of _ (by decide +kernel)) ggX5_isSame_X4_brightness
set_option maxRecDepth 20000 in
theorem ggX5_isSame_X5_moon : GoodIn wsX5_isSame wsX5_moon := goodIn_r _ [15, 11, 1, 215, 216, 217, 218, 219] (by decide +kernel) (by decide +kernel)
set_option maxRecDepth 20000 in
theorem gX5_isSame_X5_moon : GoodIn wsX5_isSame (wsV RX5 29 RX5 yX5_moon wsX5_moon) := goodIn_app (goodIn_of _ (by decide +kernel)) ggX5_isSame_X5_moon
set_option maxRecDepth 20000 in
theorem ggX5_isSame_X4_daysUntilFullMoon : GoodIn wsX5_isSame wsX4_daysUntilFullMoon := goodIn_r _ [49, 28, 29, 50, 51, 36, 52, 45, 35, 37, 220, 221, 222, 223, 224, 225, 226] (by decide +kernel) (by decide +kernel)
set_option maxRecDepth 20000 in
theorem gX5_isSame_X4_daysUntilFullMoon : GoodIn wsX5_isSame (wsV RX5 62 RX4 yX4_daysUntilFullMoon wsX4_daysUntilFullMoon) := goodIn_app (goodIn_of _ (by decide +kernel)) ggX5_isSame_X4_daysUntilFullMoon
set_option maxRecDepth 20000 in
theorem ggX5_isSame_X4_ruins : GoodIn wsX5_isSame wsX4_ruins := goodIn_r _ [56, 28, 57, 58, 220, 221, 222, 223, 224, 225, 226, 227, 228, 229, 230, 231, 232, 233] (by decide +kernel) (by decide +kernel)
set_option maxRecDepth 20000 in
theorem gX5_isSame_X4_ruins : GoodIn wsX5_isSame (wsV RX5 65 RX4 yX4_ruins wsX4_ruins) := goodIn_app (goodIn_of _ (by decide +kernel)) ggX5_isSame_X4_ruins
set_option maxRecDepth 20000 in
theorem ggX5_isSame_X4_standing : GoodIn wsX5_isSame wsX4_standing := goodIn_r _ [62, 28, 57, 63, 64, 65, 66, 67, 68, 69, 220, 221, 222, 223, 224, 225, 226, 227, 228, 229, 230, 231, 232, 233] (by decide +kernel) (by decide +kernel)
set_option maxRecDepth 20000 in
theorem gX5_isSame_X4_standing : GoodIn wsX5_isSame (wsV RX5 67 RX4 yX4_standing wsX4_standing) := goodIn_app (goodIn_of _ (by decide +kernel)) ggX5_isSame_X4_standing
set_option maxRecDepth 20000 in
theorem ggX5_isSame_X4_purse : GoodIn wsX5_isSame wsX4_purse := goodIn_r _ [73, 28, 74, 220, 221, 222, 223, 224, 225, 226] (by decide +kernel) (by decide +kernel)
set_option maxRecDepth 20000 in
theorem gX5_isSame_X4_purse : GoodIn wsX5_isSame (wsV RX5 70 RX4 yX4_purse wsX4_purse) := goodIn_app (goodIn_of _ (by decide +kernel)) ggX5_isSame_X4_purse
set_option maxRecDepth 20000 in
theorem ggX5_isSame_X4_tickets : GoodIn wsX5_isSame wsX4_tickets := goodIn_r _ [78, 28, 79, 80, 220, 221, 222, 223, 224, 225, 226, 234, 235, 236, 237, 238] (by decide +kernel) (by decide +kernel)
set_option maxRecDepth 20000 in
theorem gX5_isSame_X4_tickets : GoodIn wsX5_isSame (wsV RX5 72 RX4 yX4_tickets wsX4_tickets) := goodIn_app (goodIn_of _ (by decide +kernel)) ggX5_isSame_X4_tickets
set_option maxRecDepth 20000 in
theorem ggX5_isSame_X5_view : GoodIn wsX5_isSame wsX5_view := goodIn_r _ [19, 2, 20, 21, 9, 22, 215, 216, 217, 218, 219] (by decide +kernel) (by decide +kernel)
set_option maxRecDepth 20000 in
theorem gX5_isSame_X5_view : GoodIn wsX5_isSame (wsV RX5 33 RX5 yX5_view wsX5_view) := goodIn_app (goodIn_of _ (by decide +kernel)) ggX5_isSame_X5_view
set_option maxRecDepth 20000 in
theorem ggX5_isSame_X4_ruinAt : GoodIn wsX5_isSame wsX4_ruinAt := goodIn_ca (goodIn_r _ [84, 85, 86, 28, 57, 63, 64, 65, 66, 67, 68, 69, 87, 88, 26, 89, 90, 91, 92, 93, 94, 95, 96, 97, 43, 36, 44, 45, 35, 37, 98, 99, 100, 101, 102, 103, 104, 105, 106, 107, 108, 109, 110, 111, 112, 113, 114, 115, 116, 117, 118, 119, 120, 121, 122, 123, 124, 125, 126, 220, 221, 222, 223, 224, 225, 226, 227, 228, 229, 230, 231, 232, 233] (by decide +kernel) (by decide +kernel)) (goodIn_sub (fun _ h => List.mem_cons_of_mem _ (List.mem_append_right _ h)) (by decide +kernel))
set_option maxRecDepth 20000 in
theorem gX5_isSame_X4_ruinAt : GoodIn wsX5_isSame (wsV RX5 74 RX4 yX4_ruinAt wsX4_ruinAt) := goodIn_app (goodIn_of _ (by decide +kernel)) ggX5_isSame_X4_ruinAt
set_option maxRecDepth 20000 in
theorem ggX5_isSame_X4_rankOf : GoodIn wsX5_isSame wsX4_rankOf := goodIn_ca (goodIn_r _ [130, 28, 57, 131, 132, 133, 134, 26, 135, 85, 86, 136, 137, 138, 66, 139, 68, 90, 91, 92, 93, 94, 95, 96, 97, 43, 36, 44, 45, 35, 37, 98, 99, 100, 101, 102, 103, 69, 104, 105, 106, 107, 108, 109, 110, 111, 112, 113, 114, 115, 116, 117, 118, 119, 120, 121, 122, 220, 221, 222, 223, 224, 225, 226, 227, 228, 229, 230, 231, 232, 233] (by decide +kernel) (by decide +kernel)) (goodIn_sub (fun _ h => List.mem_cons_of_mem _ (List.mem_append_right _ h)) (by decide +kernel))
set_option maxRecDepth 20000 in
theorem gX5_isSame_X4_rankOf : GoodIn wsX5_isSame (wsV RX5 77 RX4 yX4_rankOf wsX4_rankOf) := goodIn_app (goodIn_of _ (by decide +kernel)) ggX5_isSame_X4_rankOf
set_option maxRecDepth 20000 in
theorem ggX5_isSame_X4_guestsOf : GoodIn wsX5_isSame wsX4_guestsOf := goodIn_ca (goodIn_r _ [143, 28, 57, 131, 132, 133, 134, 26, 135, 85, 86, 136, 137, 138, 66, 139, 68, 90, 91, 92, 93, 94, 95, 96, 97, 43, 36, 44, 45, 35, 37, 98, 99, 100, 101, 102, 103, 69, 104, 105, 106, 107, 108, 109, 110, 111, 112, 113, 114, 115, 116, 117, 118, 119, 120, 121, 122, 144, 145, 146, 147, 148, 220, 221, 222, 223, 224, 225, 226, 227, 228, 229, 230, 231, 232, 233] (by decide +kernel) (by decide +kernel)) (goodIn_sub (fun _ h => List.mem_cons_of_mem _ (List.mem_append_right _ h)) (by decide +kernel))
set_option maxRecDepth 20000 in
theorem gX5_isSame_X4_guestsOf : GoodIn wsX5_isSame (wsV RX5 80 RX4 yX4_guestsOf wsX4_guestsOf) := goodIn_app (goodIn_of _ (by decide +kernel)) ggX5_isSame_X4_guestsOf
set_option maxRecDepth 20000 in
theorem ggX5_isSame_X4_wallsOf : GoodIn wsX5_isSame wsX4_wallsOf := goodIn_ca (goodIn_r _ [152, 28, 57, 153, 132, 133, 134, 26, 135, 85, 86, 136, 137, 138, 66, 139, 68, 220, 221, 222, 223, 224, 225, 226, 227, 228, 229, 230, 231, 232, 233] (by decide +kernel) (by decide +kernel)) (goodIn_sub (fun _ h => List.mem_cons_of_mem _ (List.mem_append_right _ h)) (by decide +kernel))
set_option maxRecDepth 20000 in
theorem gX5_isSame_X4_wallsOf : GoodIn wsX5_isSame (wsV RX5 83 RX4 yX4_wallsOf wsX4_wallsOf) := goodIn_app (goodIn_of _ (by decide +kernel)) ggX5_isSame_X4_wallsOf
set_option maxRecDepth 20000 in
theorem ggX5_isSame_X4_ivyOf : GoodIn wsX5_isSame wsX4_ivyOf := goodIn_ca (goodIn_r _ [157, 28, 57, 158, 132, 133, 134, 26, 135, 85, 86, 136, 137, 138, 66, 139, 68, 220, 221, 222, 223, 224, 225, 226, 227, 228, 229, 230, 231, 232, 233] (by decide +kernel) (by decide +kernel)) (goodIn_sub (fun _ h => List.mem_cons_of_mem _ (List.mem_append_right _ h)) (by decide +kernel))
set_option maxRecDepth 20000 in
theorem gX5_isSame_X4_ivyOf : GoodIn wsX5_isSame (wsV RX5 86 RX4 yX4_ivyOf wsX4_ivyOf) := goodIn_app (goodIn_of _ (by decide +kernel)) ggX5_isSame_X4_ivyOf
set_option maxRecDepth 20000 in
theorem ggX5_isSame_X4_ghostsOf : GoodIn wsX5_isSame wsX4_ghostsOf := goodIn_ca (goodIn_r _ [162, 28, 57, 163, 132, 133, 134, 26, 135, 85, 86, 136, 137, 138, 66, 139, 68, 220, 221, 222, 223, 224, 225, 226, 227, 228, 229, 230, 231, 232, 233] (by decide +kernel) (by decide +kernel)) (goodIn_sub (fun _ h => List.mem_cons_of_mem _ (List.mem_append_right _ h)) (by decide +kernel))
set_option maxRecDepth 20000 in
theorem gX5_isSame_X4_ghostsOf : GoodIn wsX5_isSame (wsV RX5 89 RX4 yX4_ghostsOf wsX4_ghostsOf) := goodIn_app (goodIn_of _ (by decide +kernel)) ggX5_isSame_X4_ghostsOf
set_option maxRecDepth 20000 in
theorem ggX5_isSame_X4_gradeOf : GoodIn wsX5_isSame wsX4_gradeOf := goodIn_ca (goodIn_r _ [167, 28, 57, 132, 133, 134, 26, 135, 85, 86, 136, 137, 138, 66, 139, 68, 168, 115, 116, 117, 118, 220, 221, 222, 223, 224, 225, 226, 227, 228, 229, 230, 231, 232, 233] (by decide +kernel) (by decide +kernel)) (goodIn_sub (fun _ h => List.mem_cons_of_mem _ (List.mem_append_right _ h)) (by decide +kernel))
set_option maxRecDepth 20000 in
theorem gX5_isSame_X4_gradeOf : GoodIn wsX5_isSame (wsV RX5 92 RX4 yX4_gradeOf wsX4_gradeOf) := goodIn_app (goodIn_of _ (by decide +kernel)) ggX5_isSame_X4_gradeOf
set_option maxRecDepth 20000 in
theorem ggX5_isSame_X5_grade : GoodIn wsX5_isSame wsX5_grade := goodIn_r _ [22] (by decide +kernel) (by decide +kernel)
set_option maxRecDepth 20000 in
theorem gX5_isSame_X5_grade : GoodIn wsX5_isSame (va_wsS RX5 25 yX5_grade wsX5_grade) := goodIn_app (goodIn_of _ (by decide +kernel)) ggX5_isSame_X5_grade
set_option maxRecDepth 20000 in
theorem ggX5_isSame_X4_viewOf : GoodIn wsX5_isSame wsX4_viewOf := goodIn_ca (goodIn_r _ [172, 28, 57, 29, 132, 133, 134, 26, 135, 85, 86, 136, 137, 138, 66, 139, 68, 42, 43, 36, 44, 45, 35, 37, 173, 110, 111, 112, 69, 113, 114, 115, 116, 117, 118, 220, 221, 222, 223, 224, 225, 226, 227, 228, 229, 230, 231, 232, 233] (by decide +kernel) (by decide +kernel)) (goodIn_sub (fun _ h => List.mem_cons_of_mem _ (List.mem_append_right _ h)) (by decide +kernel))
set_option maxRecDepth 20000 in
theorem gX5_isSame_X4_viewOf : GoodIn wsX5_isSame (wsV RX5 95 RX4 yX4_viewOf wsX4_viewOf) := goodIn_app (goodIn_of _ (by decide +kernel)) ggX5_isSame_X4_viewOf
set_option maxRecDepth 20000 in
theorem ggX5_isSame_X4_hasCollapsed : GoodIn wsX5_isSame wsX4_hasCollapsed := goodIn_ca (goodIn_r _ [177, 28, 57, 132, 133, 134, 26, 135, 85, 86, 136, 137, 138, 66, 139, 68, 178, 179, 180, 181, 69, 182, 220, 221, 222, 223, 224, 225, 226, 227, 228, 229, 230, 231, 232, 233] (by decide +kernel) (by decide +kernel)) (goodIn_sub (fun _ h => List.mem_cons_of_mem _ (List.mem_append_right _ h)) (by decide +kernel))
set_option maxRecDepth 20000 in
theorem gX5_isSame_X4_hasCollapsed : GoodIn wsX5_isSame (wsV RX5 98 RX4 yX4_hasCollapsed wsX4_hasCollapsed) := goodIn_app (goodIn_of _ (by decide +kernel)) ggX5_isSame_X4_hasCollapsed
set_option maxRecDepth 20000 in
theorem ggX5_isSame_X4_dayOf : GoodIn wsX5_isSame wsX4_dayOf := goodIn_ca (goodIn_r _ [186, 28, 79, 187, 188, 189, 190, 26, 191, 85, 86, 192, 193, 194, 195, 196, 197, 220, 221, 222, 223, 224, 225, 226, 234, 235, 236, 237, 238] (by decide +kernel) (by decide +kernel)) (goodIn_sub (fun _ h => List.mem_cons_of_mem _ (List.mem_append_right _ h)) (by decide +kernel))
set_option maxRecDepth 20000 in
theorem gX5_isSame_X4_dayOf : GoodIn wsX5_isSame (wsV RX5 102 RX4 yX4_dayOf wsX4_dayOf) := goodIn_app (goodIn_of _ (by decide +kernel)) ggX5_isSame_X4_dayOf
set_option maxRecDepth 20000 in
theorem ggX5_isSame_X4_isOpen : GoodIn wsX5_isSame wsX4_isOpen := goodIn_ca (goodIn_r _ [201, 28, 79, 202, 188, 189, 190, 26, 191, 85, 86, 192, 193, 194, 195, 196, 197, 220, 221, 222, 223, 224, 225, 226, 234, 235, 236, 237, 238] (by decide +kernel) (by decide +kernel)) (goodIn_sub (fun _ h => List.mem_cons_of_mem _ (List.mem_append_right _ h)) (by decide +kernel))
set_option maxRecDepth 20000 in
theorem gX5_isSame_X4_isOpen : GoodIn wsX5_isSame (wsV RX5 105 RX4 yX4_isOpen wsX4_isOpen) := goodIn_app (goodIn_of _ (by decide +kernel)) ggX5_isSame_X4_isOpen
set_option maxRecDepth 20000 in
theorem ggX5_isSame_X4_isPaidBack : GoodIn wsX5_isSame wsX4_isPaidBack := goodIn_ca (goodIn_r _ [206, 28, 79, 202, 188, 189, 190, 26, 191, 85, 86, 192, 193, 194, 195, 196, 197, 220, 221, 222, 223, 224, 225, 226, 234, 235, 236, 237, 238] (by decide +kernel) (by decide +kernel)) (goodIn_sub (fun _ h => List.mem_cons_of_mem _ (List.mem_append_right _ h)) (by decide +kernel))
set_option maxRecDepth 20000 in
theorem gX5_isSame_X4_isPaidBack : GoodIn wsX5_isSame (wsV RX5 108 RX4 yX4_isPaidBack wsX4_isPaidBack) := goodIn_app (goodIn_of _ (by decide +kernel)) ggX5_isSame_X4_isPaidBack
set_option maxRecDepth 20000 in
theorem ggX5_isSame_X4_meanView : GoodIn wsX5_isSame wsX4_meanView := goodIn_r _ [210, 28, 57, 29, 63, 64, 65, 66, 67, 68, 69, 42, 43, 36, 44, 45, 35, 37, 211, 212, 213, 214, 109, 110, 111, 112, 113, 114, 115, 116, 117, 118, 220, 221, 222, 223, 224, 225, 226, 227, 228, 229, 230, 231, 232, 233] (by decide +kernel) (by decide +kernel)
set_option maxRecDepth 20000 in
theorem gX5_isSame_X4_meanView : GoodIn wsX5_isSame (wsV RX5 111 RX4 yX4_meanView wsX4_meanView) := goodIn_app (goodIn_of _ (by decide +kernel)) ggX5_isSame_X4_meanView
theorem dX5_isSame_0 : decode cX5_isSame 0 = .ok (.aload_n 0, 1) := by decide +kernel
theorem dX5_isSame_1 : decode cX5_isSame 1 = .ok (.invokevirtual 40, 3) := by decide +kernel
theorem dX5_isSame_4 : decode cX5_isSame 4 = .ok (.astore_n 2, 1) := by decide +kernel
theorem dX5_isSame_5 : decode cX5_isSame 5 = .ok (.iconst 0, 1) := by decide +kernel
theorem dX5_isSame_6 : decode cX5_isSame 6 = .ok (.istore_n 3, 1) := by decide +kernel
theorem dX5_isSame_7 : decode cX5_isSame 7 = .ok (.aload_n 0, 1) := by decide +kernel
theorem dX5_isSame_8 : decode cX5_isSame 8 = .ok (.getfield 22, 3) := by decide +kernel
theorem dX5_isSame_11 : decode cX5_isSame 11 = .ok (.iload_n 3, 1) := by decide +kernel
theorem dX5_isSame_12 : decode cX5_isSame 12 = .ok (.iadd, 1) := by decide +kernel
theorem dX5_isSame_13 : decode cX5_isSame 13 = .ok (.bipush 8, 2) := by decide +kernel
theorem dX5_isSame_15 : decode cX5_isSame 15 = .ok (.irem, 1) := by decide +kernel
theorem dX5_isSame_16 : decode cX5_isSame 16 = .ok (.iconst 4, 1) := by decide +kernel
theorem dX5_isSame_17 : decode cX5_isSame 17 = .ok (.if_icmp .eq 9, 3) := by decide +kernel
theorem dX5_isSame_20 : decode cX5_isSame 20 = .ok (.iinc 3 1, 3) := by decide +kernel
theorem dX5_isSame_23 : decode cX5_isSame 23 = .ok (.goto (-16), 3) := by decide +kernel
theorem dX5_isSame_26 : decode cX5_isSame 26 = .ok (.aload_n 1, 1) := by decide +kernel
theorem dX5_isSame_27 : decode cX5_isSame 27 = .ok (.invokevirtual 52, 3) := by decide +kernel
theorem dX5_isSame_30 : decode cX5_isSame 30 = .ok (.aload_n 0, 1) := by decide +kernel
theorem dX5_isSame_31 : decode cX5_isSame 31 = .ok (.getfield 22, 3) := by decide +kernel
theorem dX5_isSame_34 : decode cX5_isSame 34 = .ok (.if_icmp .ne 80, 3) := by decide +kernel
theorem dX5_isSame_37 : decode cX5_isSame 37 = .ok (.aload_n 1, 1) := by decide +kernel
theorem dX5_isSame_38 : decode cX5_isSame 38 = .ok (.invokevirtual 56, 3) := by decide +kernel
theorem dX5_isSame_41 : decode cX5_isSame 41 = .ok (.aload_n 0, 1) := by decide +kernel
theorem dX5_isSame_42 : decode cX5_isSame 42 = .ok (.getfield 22, 3) := by decide +kernel
theorem dX5_isSame_45 : decode cX5_isSame 45 = .ok (.bipush 8, 2) := by decide +kernel
theorem dX5_isSame_47 : decode cX5_isSame 47 = .ok (.irem, 1) := by decide +kernel
theorem dX5_isSame_48 : decode cX5_isSame 48 = .ok (.if_icmp .ne 66, 3) := by decide +kernel
theorem dX5_isSame_51 : decode cX5_isSame 51 = .ok (.aload_n 1, 1) := by decide +kernel
theorem dX5_isSame_52 : decode cX5_isSame 52 = .ok (.invokevirtual 59, 3) := by decide +kernel
theorem dX5_isSame_55 : decode cX5_isSame 55 = .ok (.aload_n 0, 1) := by decide +kernel
theorem dX5_isSame_56 : decode cX5_isSame 56 = .ok (.invokevirtual 29, 3) := by decide +kernel
theorem dX5_isSame_59 : decode cX5_isSame 59 = .ok (.if_icmp .ne 55, 3) := by decide +kernel
theorem dX5_isSame_62 : decode cX5_isSame 62 = .ok (.aload_n 1, 1) := by decide +kernel
theorem dX5_isSame_63 : decode cX5_isSame 63 = .ok (.invokevirtual 62, 3) := by decide +kernel
theorem dX5_isSame_66 : decode cX5_isSame 66 = .ok (.iload_n 3, 1) := by decide +kernel
theorem dX5_isSame_67 : decode cX5_isSame 67 = .ok (.if_icmp .ne 47, 3) := by decide +kernel
theorem dX5_isSame_70 : decode cX5_isSame 70 = .ok (.aload_n 1, 1) := by decide +kernel
theorem dX5_isSame_71 : decode cX5_isSame 71 = .ok (.invokevirtual 65, 3) := by decide +kernel
theorem dX5_isSame_74 : decode cX5_isSame 74 = .ok (.aload_n 0, 1) := by decide +kernel
theorem dX5_isSame_75 : decode cX5_isSame 75 = .ok (.getfield 15, 3) := by decide +kernel
theorem dX5_isSame_78 : decode cX5_isSame 78 = .ok (.arraylength, 1) := by decide +kernel
theorem dX5_isSame_79 : decode cX5_isSame 79 = .ok (.if_icmp .ne 35, 3) := by decide +kernel
theorem dX5_isSame_82 : decode cX5_isSame 82 = .ok (.aload_n 1, 1) := by decide +kernel
theorem dX5_isSame_83 : decode cX5_isSame 83 = .ok (.invokevirtual 67, 3) := by decide +kernel
theorem dX5_isSame_86 : decode cX5_isSame 86 = .ok (.aload_n 2, 1) := by decide +kernel
theorem dX5_isSame_87 : decode cX5_isSame 87 = .ok (.arraylength, 1) := by decide +kernel
theorem dX5_isSame_88 : decode cX5_isSame 88 = .ok (.if_icmp .ne 26, 3) := by decide +kernel
theorem dX5_isSame_91 : decode cX5_isSame 91 = .ok (.aload_n 1, 1) := by decide +kernel
theorem dX5_isSame_92 : decode cX5_isSame 92 = .ok (.invokevirtual 70, 3) := by decide +kernel
theorem dX5_isSame_95 : decode cX5_isSame 95 = .ok (.aload_n 0, 1) := by decide +kernel
theorem dX5_isSame_96 : decode cX5_isSame 96 = .ok (.getfield 37, 3) := by decide +kernel
theorem dX5_isSame_99 : decode cX5_isSame 99 = .ok (.if_icmp .ne 15, 3) := by decide +kernel
theorem dX5_isSame_102 : decode cX5_isSame 102 = .ok (.aload_n 1, 1) := by decide +kernel
theorem dX5_isSame_103 : decode cX5_isSame 103 = .ok (.invokevirtual 72, 3) := by decide +kernel
theorem dX5_isSame_106 : decode cX5_isSame 106 = .ok (.aload_n 0, 1) := by decide +kernel
theorem dX5_isSame_107 : decode cX5_isSame 107 = .ok (.getfield 19, 3) := by decide +kernel
theorem dX5_isSame_110 : decode cX5_isSame 110 = .ok (.arraylength, 1) := by decide +kernel
theorem dX5_isSame_111 : decode cX5_isSame 111 = .ok (.if_icmp .eq 5, 3) := by decide +kernel
theorem dX5_isSame_114 : decode cX5_isSame 114 = .ok (.iconst 0, 1) := by decide +kernel
theorem dX5_isSame_115 : decode cX5_isSame 115 = .ok (.ireturn, 1) := by decide +kernel
theorem dX5_isSame_116 : decode cX5_isSame 116 = .ok (.aload_n 0, 1) := by decide +kernel
theorem dX5_isSame_117 : decode cX5_isSame 117 = .ok (.getfield 7, 3) := by decide +kernel
theorem dX5_isSame_120 : decode cX5_isSame 120 = .ok (.istore 4, 2) := by decide +kernel
theorem dX5_isSame_122 : decode cX5_isSame 122 = .ok (.iconst 0, 1) := by decide +kernel
theorem dX5_isSame_123 : decode cX5_isSame 123 = .ok (.istore 5, 2) := by decide +kernel
theorem dX5_isSame_125 : decode cX5_isSame 125 = .ok (.aload_n 0, 1) := by decide +kernel
theorem dX5_isSame_126 : decode cX5_isSame 126 = .ok (.invokevirtual 29, 3) := by decide +kernel
theorem dX5_isSame_129 : decode cX5_isSame 129 = .ok (.istore 6, 2) := by decide +kernel
theorem dX5_isSame_131 : decode cX5_isSame 131 = .ok (.iconst 0, 1) := by decide +kernel
theorem dX5_isSame_132 : decode cX5_isSame 132 = .ok (.istore 7, 2) := by decide +kernel
theorem dX5_isSame_134 : decode cX5_isSame 134 = .ok (.iload 7, 2) := by decide +kernel
theorem dX5_isSame_136 : decode cX5_isSame 136 = .ok (.aload_n 2, 1) := by decide +kernel
theorem dX5_isSame_137 : decode cX5_isSame 137 = .ok (.arraylength, 1) := by decide +kernel
theorem dX5_isSame_138 : decode cX5_isSame 138 = .ok (.if_icmp .ge 80, 3) := by decide +kernel
theorem dX5_isSame_141 : decode cX5_isSame 141 = .ok (.iload 4, 2) := by decide +kernel
theorem dX5_isSame_143 : decode cX5_isSame 143 = .ok (.iconst 1, 1) := by decide +kernel
theorem dX5_isSame_144 : decode cX5_isSame 144 = .ok (.iadd, 1) := by decide +kernel
theorem dX5_isSame_145 : decode cX5_isSame 145 = .ok (.iconst 2, 1) := by decide +kernel
theorem dX5_isSame_146 : decode cX5_isSame 146 = .ok (.idiv, 1) := by decide +kernel
theorem dX5_isSame_147 : decode cX5_isSame 147 = .ok (.istore 8, 2) := by decide +kernel
theorem dX5_isSame_149 : decode cX5_isSame 149 = .ok (.iload 4, 2) := by decide +kernel
theorem dX5_isSame_151 : decode cX5_isSame 151 = .ok (.iload 8, 2) := by decide +kernel
theorem dX5_isSame_153 : decode cX5_isSame 153 = .ok (.isub, 1) := by decide +kernel
theorem dX5_isSame_154 : decode cX5_isSame 154 = .ok (.istore 4, 2) := by decide +kernel
theorem dX5_isSame_156 : decode cX5_isSame 156 = .ok (.iload 5, 2) := by decide +kernel
theorem dX5_isSame_158 : decode cX5_isSame 158 = .ok (.aload_n 0, 1) := by decide +kernel
theorem dX5_isSame_159 : decode cX5_isSame 159 = .ok (.aload_n 2, 1) := by decide +kernel
theorem dX5_isSame_160 : decode cX5_isSame 160 = .ok (.iload 7, 2) := by decide +kernel
theorem dX5_isSame_162 : decode cX5_isSame 162 = .ok (.iaload, 1) := by decide +kernel
theorem dX5_isSame_163 : decode cX5_isSame 163 = .ok (.iload 6, 2) := by decide +kernel
theorem dX5_isSame_165 : decode cX5_isSame 165 = .ok (.invokevirtual 33, 3) := by decide +kernel
theorem dX5_isSame_168 : decode cX5_isSame 168 = .ok (.iadd, 1) := by decide +kernel
theorem dX5_isSame_169 : decode cX5_isSame 169 = .ok (.istore 5, 2) := by decide +kernel
theorem dX5_isSame_171 : decode cX5_isSame 171 = .ok (.aload_n 1, 1) := by decide +kernel
theorem dX5_isSame_172 : decode cX5_isSame 172 = .ok (.iload 7, 2) := by decide +kernel
theorem dX5_isSame_174 : decode cX5_isSame 174 = .ok (.invokevirtual 74, 3) := by decide +kernel
theorem dX5_isSame_177 : decode cX5_isSame 177 = .ok (.aload_n 2, 1) := by decide +kernel
theorem dX5_isSame_178 : decode cX5_isSame 178 = .ok (.iload 7, 2) := by decide +kernel
theorem dX5_isSame_180 : decode cX5_isSame 180 = .ok (.iaload, 1) := by decide +kernel
theorem dX5_isSame_181 : decode cX5_isSame 181 = .ok (.if_icmp .ne 29, 3) := by decide +kernel
theorem dX5_isSame_184 : decode cX5_isSame 184 = .ok (.aload_n 1, 1) := by decide +kernel
theorem dX5_isSame_185 : decode cX5_isSame 185 = .ok (.aload_n 2, 1) := by decide +kernel
theorem dX5_isSame_186 : decode cX5_isSame 186 = .ok (.iload 7, 2) := by decide +kernel
theorem dX5_isSame_188 : decode cX5_isSame 188 = .ok (.iaload, 1) := by decide +kernel
theorem dX5_isSame_189 : decode cX5_isSame 189 = .ok (.invokevirtual 77, 3) := by decide +kernel
theorem dX5_isSame_192 : decode cX5_isSame 192 = .ok (.iload 7, 2) := by decide +kernel
theorem dX5_isSame_194 : decode cX5_isSame 194 = .ok (.if_icmp .ne 16, 3) := by decide +kernel
theorem dX5_isSame_197 : decode cX5_isSame 197 = .ok (.aload_n 1, 1) := by decide +kernel
theorem dX5_isSame_198 : decode cX5_isSame 198 = .ok (.aload_n 2, 1) := by decide +kernel
theorem dX5_isSame_199 : decode cX5_isSame 199 = .ok (.iload 7, 2) := by decide +kernel
theorem dX5_isSame_201 : decode cX5_isSame 201 = .ok (.iaload, 1) := by decide +kernel
theorem dX5_isSame_202 : decode cX5_isSame 202 = .ok (.invokevirtual 80, 3) := by decide +kernel
theorem dX5_isSame_205 : decode cX5_isSame 205 = .ok (.iload 8, 2) := by decide +kernel
theorem dX5_isSame_207 : decode cX5_isSame 207 = .ok (.if_icmp .eq 5, 3) := by decide +kernel
theorem dX5_isSame_210 : decode cX5_isSame 210 = .ok (.iconst 0, 1) := by decide +kernel
theorem dX5_isSame_211 : decode cX5_isSame 211 = .ok (.ireturn, 1) := by decide +kernel
theorem dX5_isSame_212 : decode cX5_isSame 212 = .ok (.iinc 7 1, 3) := by decide +kernel
theorem dX5_isSame_215 : decode cX5_isSame 215 = .ok (.goto (-81), 3) := by decide +kernel
theorem dX5_isSame_218 : decode cX5_isSame 218 = .ok (.iconst 0, 1) := by decide +kernel
theorem dX5_isSame_219 : decode cX5_isSame 219 = .ok (.istore 7, 2) := by decide +kernel
theorem dX5_isSame_221 : decode cX5_isSame 221 = .ok (.iload 7, 2) := by decide +kernel
theorem dX5_isSame_223 : decode cX5_isSame 223 = .ok (.aload_n 0, 1) := by decide +kernel
theorem dX5_isSame_224 : decode cX5_isSame 224 = .ok (.getfield 15, 3) := by decide +kernel
theorem dX5_isSame_227 : decode cX5_isSame 227 = .ok (.arraylength, 1) := by decide +kernel
theorem dX5_isSame_228 : decode cX5_isSame 228 = .ok (.if_icmp .ge 139, 3) := by decide +kernel
theorem dX5_isSame_231 : decode cX5_isSame 231 = .ok (.aload_n 0, 1) := by decide +kernel
theorem dX5_isSame_232 : decode cX5_isSame 232 = .ok (.getfield 15, 3) := by decide +kernel
theorem dX5_isSame_235 : decode cX5_isSame 235 = .ok (.iload 7, 2) := by decide +kernel
theorem dX5_isSame_237 : decode cX5_isSame 237 = .ok (.aaload, 1) := by decide +kernel
theorem dX5_isSame_238 : decode cX5_isSame 238 = .ok (.astore 8, 2) := by decide +kernel
theorem dX5_isSame_240 : decode cX5_isSame 240 = .ok (.aload_n 1, 1) := by decide +kernel
theorem dX5_isSame_241 : decode cX5_isSame 241 = .ok (.iload 7, 2) := by decide +kernel
theorem dX5_isSame_243 : decode cX5_isSame 243 = .ok (.invokevirtual 83, 3) := by decide +kernel
theorem dX5_isSame_246 : decode cX5_isSame 246 = .ok (.aload 8, 2) := by decide +kernel
theorem dX5_isSame_248 : decode cX5_isSame 248 = .ok (.iconst 0, 1) := by decide +kernel
theorem dX5_isSame_249 : decode cX5_isSame 249 = .ok (.iaload, 1) := by decide +kernel
theorem dX5_isSame_250 : decode cX5_isSame 250 = .ok (.if_icmp .ne 109, 3) := by decide +kernel
theorem dX5_isSame_253 : decode cX5_isSame 253 = .ok (.aload_n 1, 1) := by decide +kernel
theorem dX5_isSame_254 : decode cX5_isSame 254 = .ok (.iload 7, 2) := by decide +kernel
theorem dX5_isSame_256 : decode cX5_isSame 256 = .ok (.invokevirtual 86, 3) := by decide +kernel
theorem dX5_isSame_259 : decode cX5_isSame 259 = .ok (.aload 8, 2) := by decide +kernel
theorem dX5_isSame_261 : decode cX5_isSame 261 = .ok (.iconst 1, 1) := by decide +kernel
theorem dX5_isSame_262 : decode cX5_isSame 262 = .ok (.iaload, 1) := by decide +kernel
theorem dX5_isSame_263 : decode cX5_isSame 263 = .ok (.if_icmp .ne 96, 3) := by decide +kernel
theorem dX5_isSame_266 : decode cX5_isSame 266 = .ok (.aload_n 1, 1) := by decide +kernel
theorem dX5_isSame_267 : decode cX5_isSame 267 = .ok (.iload 7, 2) := by decide +kernel
theorem dX5_isSame_269 : decode cX5_isSame 269 = .ok (.invokevirtual 89, 3) := by decide +kernel
theorem dX5_isSame_272 : decode cX5_isSame 272 = .ok (.aload 8, 2) := by decide +kernel
theorem dX5_isSame_274 : decode cX5_isSame 274 = .ok (.iconst 2, 1) := by decide +kernel
theorem dX5_isSame_275 : decode cX5_isSame 275 = .ok (.iaload, 1) := by decide +kernel
theorem dX5_isSame_276 : decode cX5_isSame 276 = .ok (.if_icmp .ne 83, 3) := by decide +kernel
theorem dX5_isSame_279 : decode cX5_isSame 279 = .ok (.aload_n 1, 1) := by decide +kernel
theorem dX5_isSame_280 : decode cX5_isSame 280 = .ok (.iload 7, 2) := by decide +kernel
theorem dX5_isSame_282 : decode cX5_isSame 282 = .ok (.invokevirtual 92, 3) := by decide +kernel
theorem dX5_isSame_285 : decode cX5_isSame 285 = .ok (.aload 8, 2) := by decide +kernel
theorem dX5_isSame_287 : decode cX5_isSame 287 = .ok (.iconst 1, 1) := by decide +kernel
theorem dX5_isSame_288 : decode cX5_isSame 288 = .ok (.iaload, 1) := by decide +kernel
theorem dX5_isSame_289 : decode cX5_isSame 289 = .ok (.invokestatic 25, 3) := by decide +kernel
theorem dX5_isSame_292 : decode cX5_isSame 292 = .ok (.if_icmp .ne 67, 3) := by decide +kernel
theorem dX5_isSame_295 : decode cX5_isSame 295 = .ok (.aload_n 1, 1) := by decide +kernel
theorem dX5_isSame_296 : decode cX5_isSame 296 = .ok (.iload 7, 2) := by decide +kernel
theorem dX5_isSame_298 : decode cX5_isSame 298 = .ok (.invokevirtual 95, 3) := by decide +kernel
theorem dX5_isSame_301 : decode cX5_isSame 301 = .ok (.aload_n 0, 1) := by decide +kernel
theorem dX5_isSame_302 : decode cX5_isSame 302 = .ok (.iload 7, 2) := by decide +kernel
theorem dX5_isSame_304 : decode cX5_isSame 304 = .ok (.iload 6, 2) := by decide +kernel
theorem dX5_isSame_306 : decode cX5_isSame 306 = .ok (.invokevirtual 33, 3) := by decide +kernel
theorem dX5_isSame_309 : decode cX5_isSame 309 = .ok (.if_icmp .ne 50, 3) := by decide +kernel
theorem dX5_isSame_312 : decode cX5_isSame 312 = .ok (.aload_n 1, 1) := by decide +kernel
theorem dX5_isSame_313 : decode cX5_isSame 313 = .ok (.iload 7, 2) := by decide +kernel
theorem dX5_isSame_315 : decode cX5_isSame 315 = .ok (.invokevirtual 98, 3) := by decide +kernel
theorem dX5_isSame_318 : decode cX5_isSame 318 = .ok (.aload 8, 2) := by decide +kernel
theorem dX5_isSame_320 : decode cX5_isSame 320 = .ok (.iconst 0, 1) := by decide +kernel
theorem dX5_isSame_321 : decode cX5_isSame 321 = .ok (.iaload, 1) := by decide +kernel
theorem dX5_isSame_322 : decode cX5_isSame 322 = .ok (.ifCond .ne 7, 3) := by decide +kernel
theorem dX5_isSame_325 : decode cX5_isSame 325 = .ok (.iconst 1, 1) := by decide +kernel
theorem dX5_isSame_326 : decode cX5_isSame 326 = .ok (.goto 4, 3) := by decide +kernel
theorem dX5_isSame_329 : decode cX5_isSame 329 = .ok (.iconst 0, 1) := by decide +kernel
theorem dX5_isSame_330 : decode cX5_isSame 330 = .ok (.if_icmp .ne 29, 3) := by decide +kernel
theorem dX5_isSame_333 : decode cX5_isSame 333 = .ok (.aload 8, 2) := by decide +kernel
theorem dX5_isSame_335 : decode cX5_isSame 335 = .ok (.iconst 0, 1) := by decide +kernel
theorem dX5_isSame_336 : decode cX5_isSame 336 = .ok (.iaload, 1) := by decide +kernel
theorem dX5_isSame_337 : decode cX5_isSame 337 = .ok (.ifCond .ne 24, 3) := by decide +kernel
theorem dX5_isSame_340 : decode cX5_isSame 340 = .ok (.aload_n 1, 1) := by decide +kernel
theorem dX5_isSame_341 : decode cX5_isSame 341 = .ok (.iload 7, 2) := by decide +kernel
theorem dX5_isSame_343 : decode cX5_isSame 343 = .ok (.invokevirtual 77, 3) := by decide +kernel
theorem dX5_isSame_346 : decode cX5_isSame 346 = .ok (.iconst (-1), 1) := by decide +kernel
theorem dX5_isSame_347 : decode cX5_isSame 347 = .ok (.if_icmp .ne 12, 3) := by decide +kernel
theorem dX5_isSame_350 : decode cX5_isSame 350 = .ok (.aload_n 1, 1) := by decide +kernel
theorem dX5_isSame_351 : decode cX5_isSame 351 = .ok (.iload 7, 2) := by decide +kernel
theorem dX5_isSame_353 : decode cX5_isSame 353 = .ok (.invokevirtual 80, 3) := by decide +kernel
theorem dX5_isSame_356 : decode cX5_isSame 356 = .ok (.ifCond .eq 5, 3) := by decide +kernel
theorem dX5_isSame_359 : decode cX5_isSame 359 = .ok (.iconst 0, 1) := by decide +kernel
theorem dX5_isSame_360 : decode cX5_isSame 360 = .ok (.ireturn, 1) := by decide +kernel
theorem dX5_isSame_361 : decode cX5_isSame 361 = .ok (.iinc 7 1, 3) := by decide +kernel
theorem dX5_isSame_364 : decode cX5_isSame 364 = .ok (.goto (-143), 3) := by decide +kernel
theorem dX5_isSame_367 : decode cX5_isSame 367 = .ok (.iconst 0, 1) := by decide +kernel
theorem dX5_isSame_368 : decode cX5_isSame 368 = .ok (.istore 7, 2) := by decide +kernel
theorem dX5_isSame_370 : decode cX5_isSame 370 = .ok (.iload 7, 2) := by decide +kernel
theorem dX5_isSame_372 : decode cX5_isSame 372 = .ok (.aload_n 0, 1) := by decide +kernel
theorem dX5_isSame_373 : decode cX5_isSame 373 = .ok (.getfield 19, 3) := by decide +kernel
theorem dX5_isSame_376 : decode cX5_isSame 376 = .ok (.arraylength, 1) := by decide +kernel
theorem dX5_isSame_377 : decode cX5_isSame 377 = .ok (.if_icmp .ge 82, 3) := by decide +kernel
theorem dX5_isSame_380 : decode cX5_isSame 380 = .ok (.aload_n 1, 1) := by decide +kernel
theorem dX5_isSame_381 : decode cX5_isSame 381 = .ok (.iload 7, 2) := by decide +kernel
theorem dX5_isSame_383 : decode cX5_isSame 383 = .ok (.invokevirtual 102, 3) := by decide +kernel
theorem dX5_isSame_386 : decode cX5_isSame 386 = .ok (.aload_n 0, 1) := by decide +kernel
theorem dX5_isSame_387 : decode cX5_isSame 387 = .ok (.getfield 19, 3) := by decide +kernel
theorem dX5_isSame_390 : decode cX5_isSame 390 = .ok (.iload 7, 2) := by decide +kernel
theorem dX5_isSame_392 : decode cX5_isSame 392 = .ok (.aaload, 1) := by decide +kernel
theorem dX5_isSame_393 : decode cX5_isSame 393 = .ok (.iconst 1, 1) := by decide +kernel
theorem dX5_isSame_394 : decode cX5_isSame 394 = .ok (.iaload, 1) := by decide +kernel
theorem dX5_isSame_395 : decode cX5_isSame 395 = .ok (.if_icmp .ne 56, 3) := by decide +kernel
theorem dX5_isSame_398 : decode cX5_isSame 398 = .ok (.aload_n 1, 1) := by decide +kernel
theorem dX5_isSame_399 : decode cX5_isSame 399 = .ok (.iload 7, 2) := by decide +kernel
theorem dX5_isSame_401 : decode cX5_isSame 401 = .ok (.invokevirtual 105, 3) := by decide +kernel
theorem dX5_isSame_404 : decode cX5_isSame 404 = .ok (.aload_n 0, 1) := by decide +kernel
theorem dX5_isSame_405 : decode cX5_isSame 405 = .ok (.getfield 19, 3) := by decide +kernel
theorem dX5_isSame_408 : decode cX5_isSame 408 = .ok (.iload 7, 2) := by decide +kernel
theorem dX5_isSame_410 : decode cX5_isSame 410 = .ok (.aaload, 1) := by decide +kernel
theorem dX5_isSame_411 : decode cX5_isSame 411 = .ok (.iconst 3, 1) := by decide +kernel
theorem dX5_isSame_412 : decode cX5_isSame 412 = .ok (.iaload, 1) := by decide +kernel
theorem dX5_isSame_413 : decode cX5_isSame 413 = .ok (.ifCond .ne 7, 3) := by decide +kernel
theorem dX5_isSame_416 : decode cX5_isSame 416 = .ok (.iconst 1, 1) := by decide +kernel
theorem dX5_isSame_417 : decode cX5_isSame 417 = .ok (.goto 4, 3) := by decide +kernel
theorem dX5_isSame_420 : decode cX5_isSame 420 = .ok (.iconst 0, 1) := by decide +kernel
theorem dX5_isSame_421 : decode cX5_isSame 421 = .ok (.if_icmp .ne 30, 3) := by decide +kernel
theorem dX5_isSame_424 : decode cX5_isSame 424 = .ok (.aload_n 1, 1) := by decide +kernel
theorem dX5_isSame_425 : decode cX5_isSame 425 = .ok (.iload 7, 2) := by decide +kernel
theorem dX5_isSame_427 : decode cX5_isSame 427 = .ok (.invokevirtual 108, 3) := by decide +kernel
theorem dX5_isSame_430 : decode cX5_isSame 430 = .ok (.aload_n 0, 1) := by decide +kernel
theorem dX5_isSame_431 : decode cX5_isSame 431 = .ok (.getfield 19, 3) := by decide +kernel
theorem dX5_isSame_434 : decode cX5_isSame 434 = .ok (.iload 7, 2) := by decide +kernel
theorem dX5_isSame_436 : decode cX5_isSame 436 = .ok (.aaload, 1) := by decide +kernel
theorem dX5_isSame_437 : decode cX5_isSame 437 = .ok (.iconst 3, 1) := by decide +kernel
theorem dX5_isSame_438 : decode cX5_isSame 438 = .ok (.iaload, 1) := by decide +kernel
theorem dX5_isSame_439 : decode cX5_isSame 439 = .ok (.iconst 2, 1) := by decide +kernel
theorem dX5_isSame_440 : decode cX5_isSame 440 = .ok (.if_icmp .ne 7, 3) := by decide +kernel
theorem dX5_isSame_443 : decode cX5_isSame 443 = .ok (.iconst 1, 1) := by decide +kernel
theorem dX5_isSame_444 : decode cX5_isSame 444 = .ok (.goto 4, 3) := by decide +kernel
theorem dX5_isSame_447 : decode cX5_isSame 447 = .ok (.iconst 0, 1) := by decide +kernel
theorem dX5_isSame_448 : decode cX5_isSame 448 = .ok (.if_icmp .eq 5, 3) := by decide +kernel
theorem dX5_isSame_451 : decode cX5_isSame 451 = .ok (.iconst 0, 1) := by decide +kernel
theorem dX5_isSame_452 : decode cX5_isSame 452 = .ok (.ireturn, 1) := by decide +kernel
theorem dX5_isSame_453 : decode cX5_isSame 453 = .ok (.iinc 7 1, 3) := by decide +kernel
theorem dX5_isSame_456 : decode cX5_isSame 456 = .ok (.goto (-86), 3) := by decide +kernel
theorem dX5_isSame_459 : decode cX5_isSame 459 = .ok (.aload_n 1, 1) := by decide +kernel
theorem dX5_isSame_460 : decode cX5_isSame 460 = .ok (.invokevirtual 111, 3) := by decide +kernel
theorem dX5_isSame_463 : decode cX5_isSame 463 = .ok (.aload_n 2, 1) := by decide +kernel
theorem dX5_isSame_464 : decode cX5_isSame 464 = .ok (.arraylength, 1) := by decide +kernel
theorem dX5_isSame_465 : decode cX5_isSame 465 = .ok (.ifCond .ne 7, 3) := by decide +kernel
theorem dX5_isSame_468 : decode cX5_isSame 468 = .ok (.dconst 0, 1) := by decide +kernel
theorem dX5_isSame_469 : decode cX5_isSame 469 = .ok (.goto 10, 3) := by decide +kernel
theorem dX5_isSame_472 : decode cX5_isSame 472 = .ok (.iload 5, 2) := by decide +kernel
theorem dX5_isSame_474 : decode cX5_isSame 474 = .ok (.i2d, 1) := by decide +kernel
theorem dX5_isSame_475 : decode cX5_isSame 475 = .ok (.aload_n 2, 1) := by decide +kernel
theorem dX5_isSame_476 : decode cX5_isSame 476 = .ok (.arraylength, 1) := by decide +kernel
theorem dX5_isSame_477 : decode cX5_isSame 477 = .ok (.i2d, 1) := by decide +kernel
theorem dX5_isSame_478 : decode cX5_isSame 478 = .ok (.ddiv, 1) := by decide +kernel
theorem dX5_isSame_479 : decode cX5_isSame 479 = .ok (.dcmp .l, 1) := by decide +kernel
theorem dX5_isSame_480 : decode cX5_isSame 480 = .ok (.ifCond .ne 7, 3) := by decide +kernel
theorem dX5_isSame_483 : decode cX5_isSame 483 = .ok (.iconst 1, 1) := by decide +kernel
theorem dX5_isSame_484 : decode cX5_isSame 484 = .ok (.goto 4, 3) := by decide +kernel
theorem dX5_isSame_487 : decode cX5_isSame 487 = .ok (.iconst 0, 1) := by decide +kernel
theorem dX5_isSame_488 : decode cX5_isSame 488 = .ok (.ireturn, 1) := by decide +kernel
theorem dJ9_max_7cf53_0 : decode cJ9_max_7cf53 0 = .ok (.iload_n 0, 1) := by decide +kernel
theorem dJ9_max_7cf53_1 : decode cJ9_max_7cf53 1 = .ok (.iload_n 1, 1) := by decide +kernel
theorem dJ9_max_7cf53_2 : decode cJ9_max_7cf53 2 = .ok (.if_icmp .lt 7, 3) := by decide +kernel
theorem dJ9_max_7cf53_5 : decode cJ9_max_7cf53 5 = .ok (.iload_n 0, 1) := by decide +kernel
theorem dJ9_max_7cf53_6 : decode cJ9_max_7cf53 6 = .ok (.goto 4, 3) := by decide +kernel
theorem dJ9_max_7cf53_9 : decode cJ9_max_7cf53 9 = .ok (.iload_n 1, 1) := by decide +kernel
theorem dJ9_max_7cf53_10 : decode cJ9_max_7cf53 10 = .ok (.ireturn, 1) := by decide +kernel
theorem dJ9_min_7cf53_0 : decode cJ9_min_7cf53 0 = .ok (.iload_n 0, 1) := by decide +kernel
theorem dJ9_min_7cf53_1 : decode cJ9_min_7cf53 1 = .ok (.iload_n 1, 1) := by decide +kernel
theorem dJ9_min_7cf53_2 : decode cJ9_min_7cf53 2 = .ok (.if_icmp .gt 7, 3) := by decide +kernel
theorem dJ9_min_7cf53_5 : decode cJ9_min_7cf53 5 = .ok (.iload_n 0, 1) := by decide +kernel
theorem dJ9_min_7cf53_6 : decode cJ9_min_7cf53 6 = .ok (.goto 4, 3) := by decide +kernel
theorem dJ9_min_7cf53_9 : decode cJ9_min_7cf53 9 = .ok (.iload_n 1, 1) := by decide +kernel
theorem dJ9_min_7cf53_10 : decode cJ9_min_7cf53 10 = .ok (.ireturn, 1) := by decide +kernel
