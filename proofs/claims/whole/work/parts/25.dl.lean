theorem dJ9_max_7cf53_0 : decode cJ9_max_7cf53 0 = .ok (.iload_n 0, 1) := by decide +kernel
theorem dJ9_max_7cf53_1 : decode cJ9_max_7cf53 1 = .ok (.iload_n 1, 1) := by decide +kernel
theorem dJ9_max_7cf53_2 : decode cJ9_max_7cf53 2 = .ok (.if_icmp .lt 7, 3) := by decide +kernel
theorem dJ9_max_7cf53_5 : decode cJ9_max_7cf53 5 = .ok (.iload_n 0, 1) := by decide +kernel
theorem dJ9_max_7cf53_6 : decode cJ9_max_7cf53 6 = .ok (.goto 4, 3) := by decide +kernel
theorem dJ9_max_7cf53_9 : decode cJ9_max_7cf53 9 = .ok (.iload_n 1, 1) := by decide +kernel
theorem dJ9_max_7cf53_10 : decode cJ9_max_7cf53 10 = .ok (.ireturn, 1) := by decide +kernel
theorem dJ9_min_7cf53_0 : decode cJ9_min_7cf53 0 = .ok (.iload_n 0, 1) := by decide +kernel
theorem dJ9_min_7cf53_1 : decode cJ9_min_7cf53 1 = .ok (.iload_n 1, 1) := by decide +kernel
theorem dJ9_min_7cf53_2 : decode cJ9_min_7cf53 2 = .ok (.if_icmp .gt 7, 3) := by decide +kernel
theorem dJ9_min_7cf53_5 : decode cJ9_min_7cf53 5 = .ok (.iload_n 0, 1) := by decide +kernel
theorem dJ9_min_7cf53_6 : decode cJ9_min_7cf53 6 = .ok (.goto 4, 3) := by decide +kernel
theorem dJ9_min_7cf53_9 : decode cJ9_min_7cf53 9 = .ok (.iload_n 1, 1) := by decide +kernel
theorem dJ9_min_7cf53_10 : decode cJ9_min_7cf53 10 = .ok (.ireturn, 1) := by decide +kernel
set_option maxRecDepth 20000 in
theorem ggL_addRuin_X4_addRuin : GoodIn wsL_addRuin wsX4_addRuin := goodIn_ca (goodIn_ca (goodIn_r _ [7, 8, 9, 10, 11, 12, 13, 14, 15, 16, 6, 17, 18, 19, 20, 21, 22, 23, 24, 25, 26, 27, 28, 29, 30, 31, 32, 33, 34, 35, 36, 37, 38, 39, 40, 41] (by decide +kernel) (by decide +kernel)) (goodIn_sub (fun _ h => List.mem_cons_of_mem _ (List.mem_append_left _ (List.mem_append_right _ h))) (by decide +kernel))) (goodIn_sub (fun _ h => List.mem_cons_of_mem _ (List.mem_append_right _ h)) (by decide +kernel))
set_option maxRecDepth 20000 in
theorem gL_addRuin_X4_addRuin : GoodIn wsL_addRuin (wsV RL 7 RX4 yX4_addRuin wsX4_addRuin) := goodIn_app (goodIn_of _ (by decide +kernel)) ggL_addRuin_X4_addRuin
theorem dL_addRuin_0 : decode cL_addRuin 0 = .ok (.aload 5, 2) := by decide +kernel
theorem dL_addRuin_2 : decode cL_addRuin 2 = .ok (.iconst 0, 1) := by decide +kernel
theorem dL_addRuin_3 : decode cL_addRuin 3 = .ok (.aload_n 0, 1) := by decide +kernel
theorem dL_addRuin_4 : decode cL_addRuin 4 = .ok (.iload_n 1, 1) := by decide +kernel
theorem dL_addRuin_5 : decode cL_addRuin 5 = .ok (.iload_n 2, 1) := by decide +kernel
theorem dL_addRuin_6 : decode cL_addRuin 6 = .ok (.iload_n 3, 1) := by decide +kernel
theorem dL_addRuin_7 : decode cL_addRuin 7 = .ok (.iload 4, 2) := by decide +kernel
theorem dL_addRuin_9 : decode cL_addRuin 9 = .ok (.invokevirtual 7, 3) := by decide +kernel
theorem dL_addRuin_12 : decode cL_addRuin 12 = .ok (.i2l, 1) := by decide +kernel
theorem dL_addRuin_13 : decode cL_addRuin 13 = .ok (.lastore, 1) := by decide +kernel
theorem dL_addRuin_14 : decode cL_addRuin 14 = .ok (.goto 11, 3) := by decide +kernel
theorem dL_addRuin_17 : decode cL_addRuin 17 = .ok (.astore 6, 2) := by decide +kernel
theorem dL_addRuin_19 : decode cL_addRuin 19 = .ok (.iconst 1, 1) := by decide +kernel
theorem dL_addRuin_20 : decode cL_addRuin 20 = .ok (.ireturn, 1) := by decide +kernel
theorem dL_addRuin_21 : decode cL_addRuin 21 = .ok (.astore 6, 2) := by decide +kernel
theorem dL_addRuin_23 : decode cL_addRuin 23 = .ok (.iconst 2, 1) := by decide +kernel
theorem dL_addRuin_24 : decode cL_addRuin 24 = .ok (.ireturn, 1) := by decide +kernel
theorem dL_addRuin_25 : decode cL_addRuin 25 = .ok (.iconst 0, 1) := by decide +kernel
theorem dL_addRuin_26 : decode cL_addRuin 26 = .ok (.ireturn, 1) := by decide +kernel
set_option maxRecDepth 20000 in
theorem ggL_cutIvy_X4_cutIvy : GoodIn wsL_cutIvy wsX4_cutIvy := goodIn_ca (goodIn_ca (goodIn_r _ [7, 8, 9, 10, 11, 12, 13, 14, 15, 6, 16, 17, 18, 19, 20, 21, 22, 23, 24, 25, 26, 27, 28, 29, 30, 31, 32, 33, 34, 35, 36, 37, 38, 39, 40, 41, 42, 43, 44, 45, 46, 47, 48, 49, 50] (by decide +kernel) (by decide +kernel)) (goodIn_sub (fun _ h => List.mem_cons_of_mem _ (List.mem_append_left _ (List.mem_append_right _ h))) (by decide +kernel))) (goodIn_sub (fun _ h => List.mem_cons_of_mem _ (List.mem_append_right _ h)) (by decide +kernel))
set_option maxRecDepth 20000 in
theorem gL_cutIvy_X4_cutIvy : GoodIn wsL_cutIvy (wsV RL 17 RX4 yX4_cutIvy wsX4_cutIvy) := goodIn_app (goodIn_of _ (by decide +kernel)) ggL_cutIvy_X4_cutIvy
theorem dL_cutIvy_0 : decode cL_cutIvy 0 = .ok (.aload_n 3, 1) := by decide +kernel
theorem dL_cutIvy_1 : decode cL_cutIvy 1 = .ok (.iconst 0, 1) := by decide +kernel
theorem dL_cutIvy_2 : decode cL_cutIvy 2 = .ok (.aload_n 0, 1) := by decide +kernel
theorem dL_cutIvy_3 : decode cL_cutIvy 3 = .ok (.iload_n 1, 1) := by decide +kernel
theorem dL_cutIvy_4 : decode cL_cutIvy 4 = .ok (.iload_n 2, 1) := by decide +kernel
theorem dL_cutIvy_5 : decode cL_cutIvy 5 = .ok (.invokevirtual 17, 3) := by decide +kernel
theorem dL_cutIvy_8 : decode cL_cutIvy 8 = .ok (.i2l, 1) := by decide +kernel
theorem dL_cutIvy_9 : decode cL_cutIvy 9 = .ok (.lastore, 1) := by decide +kernel
theorem dL_cutIvy_10 : decode cL_cutIvy 10 = .ok (.goto 11, 3) := by decide +kernel
theorem dL_cutIvy_13 : decode cL_cutIvy 13 = .ok (.astore 4, 2) := by decide +kernel
theorem dL_cutIvy_15 : decode cL_cutIvy 15 = .ok (.iconst 1, 1) := by decide +kernel
theorem dL_cutIvy_16 : decode cL_cutIvy 16 = .ok (.ireturn, 1) := by decide +kernel
theorem dL_cutIvy_17 : decode cL_cutIvy 17 = .ok (.astore 4, 2) := by decide +kernel
theorem dL_cutIvy_19 : decode cL_cutIvy 19 = .ok (.iconst 2, 1) := by decide +kernel
theorem dL_cutIvy_20 : decode cL_cutIvy 20 = .ok (.ireturn, 1) := by decide +kernel
theorem dL_cutIvy_21 : decode cL_cutIvy 21 = .ok (.iconst 0, 1) := by decide +kernel
theorem dL_cutIvy_22 : decode cL_cutIvy 22 = .ok (.ireturn, 1) := by decide +kernel
set_option maxRecDepth 20000 in
theorem ggL_prop_X4_prop : GoodIn wsL_prop wsX4_prop := goodIn_ca (goodIn_ca (goodIn_r _ [7, 8, 9, 10, 11, 12, 13, 14, 15, 16, 6, 17, 18, 19, 20, 21, 22, 23, 24, 25, 26, 27, 28, 29, 30, 31, 32, 33, 34, 35, 36, 37, 38, 39, 40, 41, 42, 43, 44, 45] (by decide +kernel) (by decide +kernel)) (goodIn_sub (fun _ h => List.mem_cons_of_mem _ (List.mem_append_left _ (List.mem_append_right _ h))) (by decide +kernel))) (goodIn_sub (fun _ h => List.mem_cons_of_mem _ (List.mem_append_right _ h)) (by decide +kernel))
set_option maxRecDepth 20000 in
theorem gL_prop_X4_prop : GoodIn wsL_prop (wsV RL 23 RX4 yX4_prop wsX4_prop) := goodIn_app (goodIn_of _ (by decide +kernel)) ggL_prop_X4_prop
theorem dL_prop_0 : decode cL_prop 0 = .ok (.aload_n 2, 1) := by decide +kernel
theorem dL_prop_1 : decode cL_prop 1 = .ok (.iconst 0, 1) := by decide +kernel
theorem dL_prop_2 : decode cL_prop 2 = .ok (.aload_n 0, 1) := by decide +kernel
theorem dL_prop_3 : decode cL_prop 3 = .ok (.iload_n 1, 1) := by decide +kernel
theorem dL_prop_4 : decode cL_prop 4 = .ok (.invokevirtual 23, 3) := by decide +kernel
theorem dL_prop_7 : decode cL_prop 7 = .ok (.i2l, 1) := by decide +kernel
theorem dL_prop_8 : decode cL_prop 8 = .ok (.lastore, 1) := by decide +kernel
theorem dL_prop_9 : decode cL_prop 9 = .ok (.goto 9, 3) := by decide +kernel
theorem dL_prop_12 : decode cL_prop 12 = .ok (.astore_n 3, 1) := by decide +kernel
theorem dL_prop_13 : decode cL_prop 13 = .ok (.iconst 1, 1) := by decide +kernel
theorem dL_prop_14 : decode cL_prop 14 = .ok (.ireturn, 1) := by decide +kernel
theorem dL_prop_15 : decode cL_prop 15 = .ok (.astore_n 3, 1) := by decide +kernel
theorem dL_prop_16 : decode cL_prop 16 = .ok (.iconst 2, 1) := by decide +kernel
theorem dL_prop_17 : decode cL_prop 17 = .ok (.ireturn, 1) := by decide +kernel
theorem dL_prop_18 : decode cL_prop 18 = .ok (.iconst 0, 1) := by decide +kernel
theorem dL_prop_19 : decode cL_prop 19 = .ok (.ireturn, 1) := by decide +kernel
set_option maxRecDepth 20000 in
theorem ggL_setPrice_X4_setPrice : GoodIn wsL_setPrice wsX4_setPrice := goodIn_ca (goodIn_ca (goodIn_r _ [7, 8, 9, 10, 11, 12, 13, 14, 15, 6, 16, 17, 18, 19, 20, 21, 22, 23, 24, 25, 26, 27, 28, 29, 30, 31, 32, 33, 34, 35, 36, 37, 38, 39, 40, 41] (by decide +kernel) (by decide +kernel)) (goodIn_sub (fun _ h => List.mem_cons_of_mem _ (List.mem_append_left _ (List.mem_append_right _ h))) (by decide +kernel))) (goodIn_sub (fun _ h => List.mem_cons_of_mem _ (List.mem_append_right _ h)) (by decide +kernel))
set_option maxRecDepth 20000 in
theorem gL_setPrice_X4_setPrice : GoodIn wsL_setPrice (wsV RL 27 RX4 yX4_setPrice wsX4_setPrice) := goodIn_app (goodIn_of _ (by decide +kernel)) ggL_setPrice_X4_setPrice
theorem dL_setPrice_0 : decode cL_setPrice 0 = .ok (.aload_n 3, 1) := by decide +kernel
theorem dL_setPrice_1 : decode cL_setPrice 1 = .ok (.iconst 0, 1) := by decide +kernel
theorem dL_setPrice_2 : decode cL_setPrice 2 = .ok (.aload_n 0, 1) := by decide +kernel
theorem dL_setPrice_3 : decode cL_setPrice 3 = .ok (.iload_n 1, 1) := by decide +kernel
theorem dL_setPrice_4 : decode cL_setPrice 4 = .ok (.iload_n 2, 1) := by decide +kernel
theorem dL_setPrice_5 : decode cL_setPrice 5 = .ok (.invokevirtual 27, 3) := by decide +kernel
theorem dL_setPrice_8 : decode cL_setPrice 8 = .ok (.i2l, 1) := by decide +kernel
theorem dL_setPrice_9 : decode cL_setPrice 9 = .ok (.lastore, 1) := by decide +kernel
theorem dL_setPrice_10 : decode cL_setPrice 10 = .ok (.goto 11, 3) := by decide +kernel
theorem dL_setPrice_13 : decode cL_setPrice 13 = .ok (.astore 4, 2) := by decide +kernel
theorem dL_setPrice_15 : decode cL_setPrice 15 = .ok (.iconst 1, 1) := by decide +kernel
theorem dL_setPrice_16 : decode cL_setPrice 16 = .ok (.ireturn, 1) := by decide +kernel
theorem dL_setPrice_17 : decode cL_setPrice 17 = .ok (.astore 4, 2) := by decide +kernel
theorem dL_setPrice_19 : decode cL_setPrice 19 = .ok (.iconst 2, 1) := by decide +kernel
theorem dL_setPrice_20 : decode cL_setPrice 20 = .ok (.ireturn, 1) := by decide +kernel
theorem dL_setPrice_21 : decode cL_setPrice 21 = .ok (.iconst 0, 1) := by decide +kernel
theorem dL_setPrice_22 : decode cL_setPrice 22 = .ok (.ireturn, 1) := by decide +kernel
set_option maxRecDepth 20000 in
theorem ggL_setGuests_X4_setGuests : GoodIn wsL_setGuests wsX4_setGuests := goodIn_ca (goodIn_r _ [6, 7, 8, 9, 10, 11, 12, 5, 13, 14, 15, 16, 17, 18, 19, 20] (by decide +kernel) (by decide +kernel)) (goodIn_sub (fun _ h => List.mem_cons_of_mem _ (List.mem_append_right _ h)) (by decide +kernel))
set_option maxRecDepth 20000 in
theorem gL_setGuests_X4_setGuests : GoodIn wsL_setGuests (wsV RL 30 RX4 yX4_setGuests wsX4_setGuests) := goodIn_app (goodIn_of _ (by decide +kernel)) ggL_setGuests_X4_setGuests
theorem dL_setGuests_0 : decode cL_setGuests 0 = .ok (.aload_n 2, 1) := by decide +kernel
theorem dL_setGuests_1 : decode cL_setGuests 1 = .ok (.iconst 0, 1) := by decide +kernel
theorem dL_setGuests_2 : decode cL_setGuests 2 = .ok (.aload_n 0, 1) := by decide +kernel
theorem dL_setGuests_3 : decode cL_setGuests 3 = .ok (.iload_n 1, 1) := by decide +kernel
theorem dL_setGuests_4 : decode cL_setGuests 4 = .ok (.invokevirtual 30, 3) := by decide +kernel
theorem dL_setGuests_7 : decode cL_setGuests 7 = .ok (.i2l, 1) := by decide +kernel
theorem dL_setGuests_8 : decode cL_setGuests 8 = .ok (.lastore, 1) := by decide +kernel
theorem dL_setGuests_9 : decode cL_setGuests 9 = .ok (.goto 6, 3) := by decide +kernel
theorem dL_setGuests_12 : decode cL_setGuests 12 = .ok (.astore_n 3, 1) := by decide +kernel
theorem dL_setGuests_13 : decode cL_setGuests 13 = .ok (.iconst 1, 1) := by decide +kernel
theorem dL_setGuests_14 : decode cL_setGuests 14 = .ok (.ireturn, 1) := by decide +kernel
theorem dL_setGuests_15 : decode cL_setGuests 15 = .ok (.iconst 0, 1) := by decide +kernel
theorem dL_setGuests_16 : decode cL_setGuests 16 = .ok (.ireturn, 1) := by decide +kernel
set_option maxRecDepth 20000 in
theorem ggL_sellTicket_X4_sellTicket : GoodIn wsL_sellTicket wsX4_sellTicket := goodIn_ca (goodIn_ca (goodIn_ca (goodIn_r _ [8, 9, 10, 11, 12, 13, 14, 15, 16, 17, 18, 19, 20, 21, 22, 7, 23, 24, 25, 26, 27, 28, 29, 30, 31, 32, 33, 34, 35, 36, 37, 38, 39, 40, 41, 42, 43, 44, 45, 46, 47, 48, 49, 50, 51, 52, 53, 54, 55, 56, 57, 58, 59, 60, 61, 62, 63, 64, 65, 66, 67, 68, 69] (by decide +kernel) (by decide +kernel)) (goodIn_sub (fun _ h => List.mem_cons_of_mem _ (List.mem_append_left _ (List.mem_append_left _ (List.mem_append_right _ h)))) (by decide +kernel))) (goodIn_sub (fun _ h => List.mem_cons_of_mem _ (List.mem_append_left _ (List.mem_append_right _ h))) (by decide +kernel))) (goodIn_sub (fun _ h => List.mem_cons_of_mem _ (List.mem_append_right _ h)) (by decide +kernel))
set_option maxRecDepth 20000 in
theorem gL_sellTicket_X4_sellTicket : GoodIn wsL_sellTicket (wsV RL 33 RX4 yX4_sellTicket wsX4_sellTicket) := goodIn_app (goodIn_of _ (by decide +kernel)) ggL_sellTicket_X4_sellTicket
theorem dL_sellTicket_0 : decode cL_sellTicket 0 = .ok (.aload_n 3, 1) := by decide +kernel
theorem dL_sellTicket_1 : decode cL_sellTicket 1 = .ok (.iconst 0, 1) := by decide +kernel
theorem dL_sellTicket_2 : decode cL_sellTicket 2 = .ok (.aload_n 0, 1) := by decide +kernel
theorem dL_sellTicket_3 : decode cL_sellTicket 3 = .ok (.iload_n 1, 1) := by decide +kernel
theorem dL_sellTicket_4 : decode cL_sellTicket 4 = .ok (.iload_n 2, 1) := by decide +kernel
theorem dL_sellTicket_5 : decode cL_sellTicket 5 = .ok (.invokevirtual 33, 3) := by decide +kernel
theorem dL_sellTicket_8 : decode cL_sellTicket 8 = .ok (.i2l, 1) := by decide +kernel
theorem dL_sellTicket_9 : decode cL_sellTicket 9 = .ok (.lastore, 1) := by decide +kernel
theorem dL_sellTicket_10 : decode cL_sellTicket 10 = .ok (.goto 15, 3) := by decide +kernel
theorem dL_sellTicket_13 : decode cL_sellTicket 13 = .ok (.astore 4, 2) := by decide +kernel
theorem dL_sellTicket_15 : decode cL_sellTicket 15 = .ok (.iconst 1, 1) := by decide +kernel
theorem dL_sellTicket_16 : decode cL_sellTicket 16 = .ok (.ireturn, 1) := by decide +kernel
theorem dL_sellTicket_17 : decode cL_sellTicket 17 = .ok (.astore 4, 2) := by decide +kernel
theorem dL_sellTicket_19 : decode cL_sellTicket 19 = .ok (.iconst 2, 1) := by decide +kernel
theorem dL_sellTicket_20 : decode cL_sellTicket 20 = .ok (.ireturn, 1) := by decide +kernel
theorem dL_sellTicket_21 : decode cL_sellTicket 21 = .ok (.astore 4, 2) := by decide +kernel
theorem dL_sellTicket_23 : decode cL_sellTicket 23 = .ok (.iconst 3, 1) := by decide +kernel
theorem dL_sellTicket_24 : decode cL_sellTicket 24 = .ok (.ireturn, 1) := by decide +kernel
theorem dL_sellTicket_25 : decode cL_sellTicket 25 = .ok (.iconst 0, 1) := by decide +kernel
theorem dL_sellTicket_26 : decode cL_sellTicket 26 = .ok (.ireturn, 1) := by decide +kernel
set_option maxRecDepth 20000 in
theorem ggL_pass_X4_pass : GoodIn wsL_pass wsX4_pass := goodIn_ca (goodIn_r _ [6, 7, 8, 9, 10, 5, 11, 12, 13, 14, 15, 16, 17, 18, 19, 20, 21, 22, 23, 24, 25, 26, 27, 28, 29, 30, 31, 32, 33, 34, 35, 36, 37, 38, 39, 40, 41, 42, 43, 44, 45, 46, 47, 48, 49, 50, 51, 52, 53, 54, 55, 56, 57, 58, 59, 60, 61, 62, 63, 64, 65, 66, 67, 68, 69, 70, 71, 72, 73, 74, 75, 76, 77, 78, 79, 80, 81, 82, 83, 84, 85, 86, 87, 88, 89, 90, 91, 92, 93, 94, 95, 96, 97, 98, 99, 100, 101, 102, 103, 104, 105, 106, 107, 108, 109, 110, 111, 112, 113, 114, 115, 116, 117, 118, 119, 120, 121, 122, 123, 124, 125, 126] (by decide +kernel) (by decide +kernel)) (goodIn_sub (fun _ h => List.mem_cons_of_mem _ (List.mem_append_right _ h)) (by decide +kernel))
set_option maxRecDepth 20000 in
theorem gL_pass_X4_pass : GoodIn wsL_pass (wsV RL 36 RX4 yX4_pass wsX4_pass) := goodIn_app (goodIn_of _ (by decide +kernel)) ggL_pass_X4_pass
theorem dL_pass_0 : decode cL_pass 0 = .ok (.aload_n 2, 1) := by decide +kernel
theorem dL_pass_1 : decode cL_pass 1 = .ok (.iconst 0, 1) := by decide +kernel
theorem dL_pass_2 : decode cL_pass 2 = .ok (.aload_n 0, 1) := by decide +kernel
theorem dL_pass_3 : decode cL_pass 3 = .ok (.iload_n 1, 1) := by decide +kernel
theorem dL_pass_4 : decode cL_pass 4 = .ok (.invokevirtual 36, 3) := by decide +kernel
theorem dL_pass_7 : decode cL_pass 7 = .ok (.i2l, 1) := by decide +kernel
theorem dL_pass_8 : decode cL_pass 8 = .ok (.lastore, 1) := by decide +kernel
theorem dL_pass_9 : decode cL_pass 9 = .ok (.goto 6, 3) := by decide +kernel
theorem dL_pass_12 : decode cL_pass 12 = .ok (.astore_n 3, 1) := by decide +kernel
theorem dL_pass_13 : decode cL_pass 13 = .ok (.iconst 1, 1) := by decide +kernel
theorem dL_pass_14 : decode cL_pass 14 = .ok (.ireturn, 1) := by decide +kernel
theorem dL_pass_15 : decode cL_pass 15 = .ok (.iconst 0, 1) := by decide +kernel
theorem dL_pass_16 : decode cL_pass 16 = .ok (.ireturn, 1) := by decide +kernel
set_option maxRecDepth 20000 in
theorem ggL_wallsOf_X4_wallsOf : GoodIn wsL_wallsOf wsX4_wallsOf := goodIn_ca (goodIn_r _ [6, 7, 8, 9, 10, 11, 12, 5, 13, 14, 15, 16, 17, 18, 19, 20, 21, 22, 23, 24, 25, 26, 27, 28, 29, 30, 31, 32, 33, 34, 35] (by decide +kernel) (by decide +kernel)) (goodIn_sub (fun _ h => List.mem_cons_of_mem _ (List.mem_append_right _ h)) (by decide +kernel))
set_option maxRecDepth 20000 in
theorem gL_wallsOf_X4_wallsOf : GoodIn wsL_wallsOf (wsV RL 39 RX4 yX4_wallsOf wsX4_wallsOf) := goodIn_app (goodIn_of _ (by decide +kernel)) ggL_wallsOf_X4_wallsOf
theorem dL_wallsOf_0 : decode cL_wallsOf 0 = .ok (.aload_n 2, 1) := by decide +kernel
theorem dL_wallsOf_1 : decode cL_wallsOf 1 = .ok (.iconst 0, 1) := by decide +kernel
theorem dL_wallsOf_2 : decode cL_wallsOf 2 = .ok (.aload_n 0, 1) := by decide +kernel
theorem dL_wallsOf_3 : decode cL_wallsOf 3 = .ok (.iload_n 1, 1) := by decide +kernel
theorem dL_wallsOf_4 : decode cL_wallsOf 4 = .ok (.invokevirtual 39, 3) := by decide +kernel
theorem dL_wallsOf_7 : decode cL_wallsOf 7 = .ok (.i2l, 1) := by decide +kernel
theorem dL_wallsOf_8 : decode cL_wallsOf 8 = .ok (.lastore, 1) := by decide +kernel
theorem dL_wallsOf_9 : decode cL_wallsOf 9 = .ok (.goto 6, 3) := by decide +kernel
theorem dL_wallsOf_12 : decode cL_wallsOf 12 = .ok (.astore_n 3, 1) := by decide +kernel
theorem dL_wallsOf_13 : decode cL_wallsOf 13 = .ok (.iconst 1, 1) := by decide +kernel
theorem dL_wallsOf_14 : decode cL_wallsOf 14 = .ok (.ireturn, 1) := by decide +kernel
theorem dL_wallsOf_15 : decode cL_wallsOf 15 = .ok (.iconst 0, 1) := by decide +kernel
theorem dL_wallsOf_16 : decode cL_wallsOf 16 = .ok (.ireturn, 1) := by decide +kernel
set_option maxRecDepth 20000 in
theorem ggL_ivyOf_X4_ivyOf : GoodIn wsL_ivyOf wsX4_ivyOf := goodIn_ca (goodIn_r _ [6, 7, 8, 9, 10, 11, 12, 5, 13, 14, 15, 16, 17, 18, 19, 20, 21, 22, 23, 24, 25, 26, 27, 28, 29, 30, 31, 32, 33, 34, 35] (by decide +kernel) (by decide +kernel)) (goodIn_sub (fun _ h => List.mem_cons_of_mem _ (List.mem_append_right _ h)) (by decide +kernel))
set_option maxRecDepth 20000 in
theorem gL_ivyOf_X4_ivyOf : GoodIn wsL_ivyOf (wsV RL 42 RX4 yX4_ivyOf wsX4_ivyOf) := goodIn_app (goodIn_of _ (by decide +kernel)) ggL_ivyOf_X4_ivyOf
theorem dL_ivyOf_0 : decode cL_ivyOf 0 = .ok (.aload_n 2, 1) := by decide +kernel
theorem dL_ivyOf_1 : decode cL_ivyOf 1 = .ok (.iconst 0, 1) := by decide +kernel
theorem dL_ivyOf_2 : decode cL_ivyOf 2 = .ok (.aload_n 0, 1) := by decide +kernel
theorem dL_ivyOf_3 : decode cL_ivyOf 3 = .ok (.iload_n 1, 1) := by decide +kernel
theorem dL_ivyOf_4 : decode cL_ivyOf 4 = .ok (.invokevirtual 42, 3) := by decide +kernel
theorem dL_ivyOf_7 : decode cL_ivyOf 7 = .ok (.i2l, 1) := by decide +kernel
theorem dL_ivyOf_8 : decode cL_ivyOf 8 = .ok (.lastore, 1) := by decide +kernel
theorem dL_ivyOf_9 : decode cL_ivyOf 9 = .ok (.goto 6, 3) := by decide +kernel
theorem dL_ivyOf_12 : decode cL_ivyOf 12 = .ok (.astore_n 3, 1) := by decide +kernel
theorem dL_ivyOf_13 : decode cL_ivyOf 13 = .ok (.iconst 1, 1) := by decide +kernel
theorem dL_ivyOf_14 : decode cL_ivyOf 14 = .ok (.ireturn, 1) := by decide +kernel
theorem dL_ivyOf_15 : decode cL_ivyOf 15 = .ok (.iconst 0, 1) := by decide +kernel
theorem dL_ivyOf_16 : decode cL_ivyOf 16 = .ok (.ireturn, 1) := by decide +kernel
set_option maxRecDepth 20000 in
theorem ggL_gradeOf_X4_gradeOf : GoodIn wsL_gradeOf wsX4_gradeOf := goodIn_ca (goodIn_r _ [6, 7, 8, 9, 10, 11, 5, 12, 13, 14, 15, 16, 17, 18, 19, 20, 21, 22, 23, 24, 25, 26, 27, 28, 29, 30, 31, 32, 33, 34, 35, 36, 37, 38, 39] (by decide +kernel) (by decide +kernel)) (goodIn_sub (fun _ h => List.mem_cons_of_mem _ (List.mem_append_right _ h)) (by decide +kernel))
set_option maxRecDepth 20000 in
theorem gL_gradeOf_X4_gradeOf : GoodIn wsL_gradeOf (wsV RL 45 RX4 yX4_gradeOf wsX4_gradeOf) := goodIn_app (goodIn_of _ (by decide +kernel)) ggL_gradeOf_X4_gradeOf
theorem dL_gradeOf_0 : decode cL_gradeOf 0 = .ok (.aload_n 2, 1) := by decide +kernel
theorem dL_gradeOf_1 : decode cL_gradeOf 1 = .ok (.iconst 0, 1) := by decide +kernel
theorem dL_gradeOf_2 : decode cL_gradeOf 2 = .ok (.aload_n 0, 1) := by decide +kernel
theorem dL_gradeOf_3 : decode cL_gradeOf 3 = .ok (.iload_n 1, 1) := by decide +kernel
theorem dL_gradeOf_4 : decode cL_gradeOf 4 = .ok (.invokevirtual 45, 3) := by decide +kernel
theorem dL_gradeOf_7 : decode cL_gradeOf 7 = .ok (.i2l, 1) := by decide +kernel
theorem dL_gradeOf_8 : decode cL_gradeOf 8 = .ok (.lastore, 1) := by decide +kernel
theorem dL_gradeOf_9 : decode cL_gradeOf 9 = .ok (.goto 6, 3) := by decide +kernel
theorem dL_gradeOf_12 : decode cL_gradeOf 12 = .ok (.astore_n 3, 1) := by decide +kernel
theorem dL_gradeOf_13 : decode cL_gradeOf 13 = .ok (.iconst 1, 1) := by decide +kernel
theorem dL_gradeOf_14 : decode cL_gradeOf 14 = .ok (.ireturn, 1) := by decide +kernel
theorem dL_gradeOf_15 : decode cL_gradeOf 15 = .ok (.iconst 0, 1) := by decide +kernel
theorem dL_gradeOf_16 : decode cL_gradeOf 16 = .ok (.ireturn, 1) := by decide +kernel
set_option maxRecDepth 20000 in
theorem ggL_ghostsOf_X4_ghostsOf : GoodIn wsL_ghostsOf wsX4_ghostsOf := goodIn_ca (goodIn_r _ [6, 7, 8, 9, 10, 11, 12, 5, 13, 14, 15, 16, 17, 18, 19, 20, 21, 22, 23, 24, 25, 26, 27, 28, 29, 30, 31, 32, 33, 34, 35] (by decide +kernel) (by decide +kernel)) (goodIn_sub (fun _ h => List.mem_cons_of_mem _ (List.mem_append_right _ h)) (by decide +kernel))
set_option maxRecDepth 20000 in
theorem gL_ghostsOf_X4_ghostsOf : GoodIn wsL_ghostsOf (wsV RL 48 RX4 yX4_ghostsOf wsX4_ghostsOf) := goodIn_app (goodIn_of _ (by decide +kernel)) ggL_ghostsOf_X4_ghostsOf
theorem dL_ghostsOf_0 : decode cL_ghostsOf 0 = .ok (.aload_n 2, 1) := by decide +kernel
theorem dL_ghostsOf_1 : decode cL_ghostsOf 1 = .ok (.iconst 0, 1) := by decide +kernel
theorem dL_ghostsOf_2 : decode cL_ghostsOf 2 = .ok (.aload_n 0, 1) := by decide +kernel
theorem dL_ghostsOf_3 : decode cL_ghostsOf 3 = .ok (.iload_n 1, 1) := by decide +kernel
theorem dL_ghostsOf_4 : decode cL_ghostsOf 4 = .ok (.invokevirtual 48, 3) := by decide +kernel
theorem dL_ghostsOf_7 : decode cL_ghostsOf 7 = .ok (.i2l, 1) := by decide +kernel
theorem dL_ghostsOf_8 : decode cL_ghostsOf 8 = .ok (.lastore, 1) := by decide +kernel
theorem dL_ghostsOf_9 : decode cL_ghostsOf 9 = .ok (.goto 6, 3) := by decide +kernel
theorem dL_ghostsOf_12 : decode cL_ghostsOf 12 = .ok (.astore_n 3, 1) := by decide +kernel
theorem dL_ghostsOf_13 : decode cL_ghostsOf 13 = .ok (.iconst 1, 1) := by decide +kernel
theorem dL_ghostsOf_14 : decode cL_ghostsOf 14 = .ok (.ireturn, 1) := by decide +kernel
theorem dL_ghostsOf_15 : decode cL_ghostsOf 15 = .ok (.iconst 0, 1) := by decide +kernel
theorem dL_ghostsOf_16 : decode cL_ghostsOf 16 = .ok (.ireturn, 1) := by decide +kernel
set_option maxRecDepth 20000 in
theorem ggL_hasCollapsed_X4_hasCollapsed : GoodIn wsL_hasCollapsed wsX4_hasCollapsed := goodIn_ca (goodIn_r _ [6, 7, 8, 9, 10, 11, 5, 12, 13, 14, 15, 16, 17, 18, 19, 20, 21, 22, 23, 24, 25, 26, 27, 28, 29, 30, 31, 32, 33, 34, 35, 36, 37, 38, 39, 40] (by decide +kernel) (by decide +kernel)) (goodIn_sub (fun _ h => List.mem_cons_of_mem _ (List.mem_append_right _ h)) (by decide +kernel))
set_option maxRecDepth 20000 in
theorem gL_hasCollapsed_X4_hasCollapsed : GoodIn wsL_hasCollapsed (wsV RL 51 RX4 yX4_hasCollapsed wsX4_hasCollapsed) := goodIn_app (goodIn_of _ (by decide +kernel)) ggL_hasCollapsed_X4_hasCollapsed
theorem dL_hasCollapsed_0 : decode cL_hasCollapsed 0 = .ok (.aload_n 2, 1) := by decide +kernel
theorem dL_hasCollapsed_1 : decode cL_hasCollapsed 1 = .ok (.iconst 0, 1) := by decide +kernel
theorem dL_hasCollapsed_2 : decode cL_hasCollapsed 2 = .ok (.aload_n 0, 1) := by decide +kernel
theorem dL_hasCollapsed_3 : decode cL_hasCollapsed 3 = .ok (.iload_n 1, 1) := by decide +kernel
theorem dL_hasCollapsed_4 : decode cL_hasCollapsed 4 = .ok (.invokevirtual 51, 3) := by decide +kernel
theorem dL_hasCollapsed_7 : decode cL_hasCollapsed 7 = .ok (.ifCond .eq 7, 3) := by decide +kernel
theorem dL_hasCollapsed_10 : decode cL_hasCollapsed 10 = .ok (.lconst 1, 1) := by decide +kernel
theorem dL_hasCollapsed_11 : decode cL_hasCollapsed 11 = .ok (.goto 4, 3) := by decide +kernel
theorem dL_hasCollapsed_14 : decode cL_hasCollapsed 14 = .ok (.lconst 0, 1) := by decide +kernel
theorem dL_hasCollapsed_15 : decode cL_hasCollapsed 15 = .ok (.lastore, 1) := by decide +kernel
theorem dL_hasCollapsed_16 : decode cL_hasCollapsed 16 = .ok (.goto 6, 3) := by decide +kernel
theorem dL_hasCollapsed_19 : decode cL_hasCollapsed 19 = .ok (.astore_n 3, 1) := by decide +kernel
theorem dL_hasCollapsed_20 : decode cL_hasCollapsed 20 = .ok (.iconst 1, 1) := by decide +kernel
theorem dL_hasCollapsed_21 : decode cL_hasCollapsed 21 = .ok (.ireturn, 1) := by decide +kernel
theorem dL_hasCollapsed_22 : decode cL_hasCollapsed 22 = .ok (.iconst 0, 1) := by decide +kernel
theorem dL_hasCollapsed_23 : decode cL_hasCollapsed 23 = .ok (.ireturn, 1) := by decide +kernel
set_option maxRecDepth 20000 in
theorem ggL_viewOf_X4_viewOf : GoodIn wsL_viewOf wsX4_viewOf := goodIn_ca (goodIn_r _ [6, 7, 8, 9, 10, 11, 12, 5, 13, 14, 15, 16, 17, 18, 19, 20, 21, 22, 23, 24, 25, 26, 27, 28, 29, 30, 31, 32, 33, 34, 35, 36, 37, 38, 39, 40, 41, 42, 43, 44, 45, 46, 47, 48, 49, 50, 51, 52, 53] (by decide +kernel) (by decide +kernel)) (goodIn_sub (fun _ h => List.mem_cons_of_mem _ (List.mem_append_right _ h)) (by decide +kernel))
set_option maxRecDepth 20000 in
theorem gL_viewOf_X4_viewOf : GoodIn wsL_viewOf (wsV RL 55 RX4 yX4_viewOf wsX4_viewOf) := goodIn_app (goodIn_of _ (by decide +kernel)) ggL_viewOf_X4_viewOf
theorem dL_viewOf_0 : decode cL_viewOf 0 = .ok (.aload_n 2, 1) := by decide +kernel
theorem dL_viewOf_1 : decode cL_viewOf 1 = .ok (.iconst 0, 1) := by decide +kernel
theorem dL_viewOf_2 : decode cL_viewOf 2 = .ok (.aload_n 0, 1) := by decide +kernel
theorem dL_viewOf_3 : decode cL_viewOf 3 = .ok (.iload_n 1, 1) := by decide +kernel
theorem dL_viewOf_4 : decode cL_viewOf 4 = .ok (.invokevirtual 55, 3) := by decide +kernel
theorem dL_viewOf_7 : decode cL_viewOf 7 = .ok (.i2l, 1) := by decide +kernel
theorem dL_viewOf_8 : decode cL_viewOf 8 = .ok (.lastore, 1) := by decide +kernel
theorem dL_viewOf_9 : decode cL_viewOf 9 = .ok (.goto 6, 3) := by decide +kernel
theorem dL_viewOf_12 : decode cL_viewOf 12 = .ok (.astore_n 3, 1) := by decide +kernel
theorem dL_viewOf_13 : decode cL_viewOf 13 = .ok (.iconst 1, 1) := by decide +kernel
theorem dL_viewOf_14 : decode cL_viewOf 14 = .ok (.ireturn, 1) := by decide +kernel
theorem dL_viewOf_15 : decode cL_viewOf 15 = .ok (.iconst 0, 1) := by decide +kernel
theorem dL_viewOf_16 : decode cL_viewOf 16 = .ok (.ireturn, 1) := by decide +kernel
set_option maxRecDepth 20000 in
theorem ggL_rankOf_X4_rankOf : GoodIn wsL_rankOf wsX4_rankOf := goodIn_ca (goodIn_r _ [6, 7, 8, 9, 10, 11, 12, 5, 13, 14, 15, 16, 17, 18, 19, 20, 21, 22, 23, 24, 25, 26, 27, 28, 29, 30, 31, 32, 33, 34, 35, 36, 37, 38, 39, 40, 41, 42, 43, 44, 45, 46, 47, 48, 49, 50, 51, 52, 53, 54, 55, 56, 57, 58, 59, 60, 61, 62, 63, 64, 65, 66, 67, 68, 69, 70, 71, 72, 73, 74, 75] (by decide +kernel) (by decide +kernel)) (goodIn_sub (fun _ h => List.mem_cons_of_mem _ (List.mem_append_right _ h)) (by decide +kernel))
set_option maxRecDepth 20000 in
theorem gL_rankOf_X4_rankOf : GoodIn wsL_rankOf (wsV RL 58 RX4 yX4_rankOf wsX4_rankOf) := goodIn_app (goodIn_of _ (by decide +kernel)) ggL_rankOf_X4_rankOf
theorem dL_rankOf_0 : decode cL_rankOf 0 = .ok (.aload_n 2, 1) := by decide +kernel
theorem dL_rankOf_1 : decode cL_rankOf 1 = .ok (.iconst 0, 1) := by decide +kernel
theorem dL_rankOf_2 : decode cL_rankOf 2 = .ok (.aload_n 0, 1) := by decide +kernel
theorem dL_rankOf_3 : decode cL_rankOf 3 = .ok (.iload_n 1, 1) := by decide +kernel
theorem dL_rankOf_4 : decode cL_rankOf 4 = .ok (.invokevirtual 58, 3) := by decide +kernel
theorem dL_rankOf_7 : decode cL_rankOf 7 = .ok (.i2l, 1) := by decide +kernel
theorem dL_rankOf_8 : decode cL_rankOf 8 = .ok (.lastore, 1) := by decide +kernel
theorem dL_rankOf_9 : decode cL_rankOf 9 = .ok (.goto 6, 3) := by decide +kernel
theorem dL_rankOf_12 : decode cL_rankOf 12 = .ok (.astore_n 3, 1) := by decide +kernel
theorem dL_rankOf_13 : decode cL_rankOf 13 = .ok (.iconst 1, 1) := by decide +kernel
theorem dL_rankOf_14 : decode cL_rankOf 14 = .ok (.ireturn, 1) := by decide +kernel
theorem dL_rankOf_15 : decode cL_rankOf 15 = .ok (.iconst 0, 1) := by decide +kernel
theorem dL_rankOf_16 : decode cL_rankOf 16 = .ok (.ireturn, 1) := by decide +kernel
set_option maxRecDepth 20000 in
theorem ggL_ruinAt_X4_ruinAt : GoodIn wsL_ruinAt wsX4_ruinAt := goodIn_ca (goodIn_r _ [6, 7, 8, 9, 10, 11, 12, 13, 14, 15, 16, 17, 18, 19, 5, 20, 21, 22, 23, 24, 25, 26, 27, 28, 29, 30, 31, 32, 33, 34, 35, 36, 37, 38, 39, 40, 41, 42, 43, 44, 45, 46, 47, 48, 49, 50, 51, 52, 53, 54, 55, 56, 57, 58, 59, 60, 61, 62, 63, 64, 65, 66, 67, 68, 69, 70, 71, 72, 73, 74, 75, 76, 77] (by decide +kernel) (by decide +kernel)) (goodIn_sub (fun _ h => List.mem_cons_of_mem _ (List.mem_append_right _ h)) (by decide +kernel))
set_option maxRecDepth 20000 in
theorem gL_ruinAt_X4_ruinAt : GoodIn wsL_ruinAt (wsV RL 61 RX4 yX4_ruinAt wsX4_ruinAt) := goodIn_app (goodIn_of _ (by decide +kernel)) ggL_ruinAt_X4_ruinAt
theorem dL_ruinAt_0 : decode cL_ruinAt 0 = .ok (.aload_n 2, 1) := by decide +kernel
theorem dL_ruinAt_1 : decode cL_ruinAt 1 = .ok (.iconst 0, 1) := by decide +kernel
theorem dL_ruinAt_2 : decode cL_ruinAt 2 = .ok (.aload_n 0, 1) := by decide +kernel
theorem dL_ruinAt_3 : decode cL_ruinAt 3 = .ok (.iload_n 1, 1) := by decide +kernel
theorem dL_ruinAt_4 : decode cL_ruinAt 4 = .ok (.invokevirtual 61, 3) := by decide +kernel
theorem dL_ruinAt_7 : decode cL_ruinAt 7 = .ok (.i2l, 1) := by decide +kernel
theorem dL_ruinAt_8 : decode cL_ruinAt 8 = .ok (.lastore, 1) := by decide +kernel
theorem dL_ruinAt_9 : decode cL_ruinAt 9 = .ok (.goto 6, 3) := by decide +kernel
theorem dL_ruinAt_12 : decode cL_ruinAt 12 = .ok (.astore_n 3, 1) := by decide +kernel
theorem dL_ruinAt_13 : decode cL_ruinAt 13 = .ok (.iconst 1, 1) := by decide +kernel
theorem dL_ruinAt_14 : decode cL_ruinAt 14 = .ok (.ireturn, 1) := by decide +kernel
theorem dL_ruinAt_15 : decode cL_ruinAt 15 = .ok (.iconst 0, 1) := by decide +kernel
theorem dL_ruinAt_16 : decode cL_ruinAt 16 = .ok (.ireturn, 1) := by decide +kernel
set_option maxRecDepth 20000 in
theorem ggL_guestsOf_X4_guestsOf : GoodIn wsL_guestsOf wsX4_guestsOf := goodIn_ca (goodIn_r _ [6, 7, 8, 9, 10, 11, 12, 5, 13, 14, 15, 16, 17, 18, 19, 20, 21, 22, 23, 24, 25, 26, 27, 28, 29, 30, 31, 32, 33, 34, 35, 36, 37, 38, 39, 40, 41, 42, 43, 44, 45, 46, 47, 48, 49, 50, 51, 52, 53, 54, 55, 56, 57, 58, 59, 60, 61, 62, 63, 64, 65, 66, 67, 68, 69, 70, 71, 72, 73, 74, 75, 76, 77, 78, 79, 80] (by decide +kernel) (by decide +kernel)) (goodIn_sub (fun _ h => List.mem_cons_of_mem _ (List.mem_append_right _ h)) (by decide +kernel))
set_option maxRecDepth 20000 in
theorem gL_guestsOf_X4_guestsOf : GoodIn wsL_guestsOf (wsV RL 64 RX4 yX4_guestsOf wsX4_guestsOf) := goodIn_app (goodIn_of _ (by decide +kernel)) ggL_guestsOf_X4_guestsOf
theorem dL_guestsOf_0 : decode cL_guestsOf 0 = .ok (.aload_n 2, 1) := by decide +kernel
theorem dL_guestsOf_1 : decode cL_guestsOf 1 = .ok (.iconst 0, 1) := by decide +kernel
theorem dL_guestsOf_2 : decode cL_guestsOf 2 = .ok (.aload_n 0, 1) := by decide +kernel
theorem dL_guestsOf_3 : decode cL_guestsOf 3 = .ok (.iload_n 1, 1) := by decide +kernel
theorem dL_guestsOf_4 : decode cL_guestsOf 4 = .ok (.invokevirtual 64, 3) := by decide +kernel
theorem dL_guestsOf_7 : decode cL_guestsOf 7 = .ok (.i2l, 1) := by decide +kernel
theorem dL_guestsOf_8 : decode cL_guestsOf 8 = .ok (.lastore, 1) := by decide +kernel
theorem dL_guestsOf_9 : decode cL_guestsOf 9 = .ok (.goto 6, 3) := by decide +kernel
theorem dL_guestsOf_12 : decode cL_guestsOf 12 = .ok (.astore_n 3, 1) := by decide +kernel
theorem dL_guestsOf_13 : decode cL_guestsOf 13 = .ok (.iconst 1, 1) := by decide +kernel
theorem dL_guestsOf_14 : decode cL_guestsOf 14 = .ok (.ireturn, 1) := by decide +kernel
theorem dL_guestsOf_15 : decode cL_guestsOf 15 = .ok (.iconst 0, 1) := by decide +kernel
theorem dL_guestsOf_16 : decode cL_guestsOf 16 = .ok (.ireturn, 1) := by decide +kernel
set_option maxRecDepth 20000 in
theorem ggL_dayOf_X4_dayOf : GoodIn wsL_dayOf wsX4_dayOf := goodIn_ca (goodIn_r _ [6, 7, 8, 9, 10, 11, 12, 5, 13, 14, 15, 16, 17, 18, 19, 20, 21, 22, 23, 24, 25, 26, 27, 28, 29, 30, 31, 32, 33] (by decide +kernel) (by decide +kernel)) (goodIn_sub (fun _ h => List.mem_cons_of_mem _ (List.mem_append_right _ h)) (by decide +kernel))
set_option maxRecDepth 20000 in
theorem gL_dayOf_X4_dayOf : GoodIn wsL_dayOf (wsV RL 67 RX4 yX4_dayOf wsX4_dayOf) := goodIn_app (goodIn_of _ (by decide +kernel)) ggL_dayOf_X4_dayOf
theorem dL_dayOf_0 : decode cL_dayOf 0 = .ok (.aload_n 2, 1) := by decide +kernel
theorem dL_dayOf_1 : decode cL_dayOf 1 = .ok (.iconst 0, 1) := by decide +kernel
theorem dL_dayOf_2 : decode cL_dayOf 2 = .ok (.aload_n 0, 1) := by decide +kernel
theorem dL_dayOf_3 : decode cL_dayOf 3 = .ok (.iload_n 1, 1) := by decide +kernel
theorem dL_dayOf_4 : decode cL_dayOf 4 = .ok (.invokevirtual 67, 3) := by decide +kernel
theorem dL_dayOf_7 : decode cL_dayOf 7 = .ok (.i2l, 1) := by decide +kernel
theorem dL_dayOf_8 : decode cL_dayOf 8 = .ok (.lastore, 1) := by decide +kernel
theorem dL_dayOf_9 : decode cL_dayOf 9 = .ok (.goto 6, 3) := by decide +kernel
theorem dL_dayOf_12 : decode cL_dayOf 12 = .ok (.astore_n 3, 1) := by decide +kernel
theorem dL_dayOf_13 : decode cL_dayOf 13 = .ok (.iconst 1, 1) := by decide +kernel
theorem dL_dayOf_14 : decode cL_dayOf 14 = .ok (.ireturn, 1) := by decide +kernel
theorem dL_dayOf_15 : decode cL_dayOf 15 = .ok (.iconst 0, 1) := by decide +kernel
theorem dL_dayOf_16 : decode cL_dayOf 16 = .ok (.ireturn, 1) := by decide +kernel
set_option maxRecDepth 20000 in
theorem ggL_isOpen_X4_isOpen : GoodIn wsL_isOpen wsX4_isOpen := goodIn_ca (goodIn_r _ [6, 7, 8, 9, 10, 11, 12, 5, 13, 14, 15, 16, 17, 18, 19, 20, 21, 22, 23, 24, 25, 26, 27, 28, 29, 30, 31, 32, 33] (by decide +kernel) (by decide +kernel)) (goodIn_sub (fun _ h => List.mem_cons_of_mem _ (List.mem_append_right _ h)) (by decide +kernel))
set_option maxRecDepth 20000 in
theorem gL_isOpen_X4_isOpen : GoodIn wsL_isOpen (wsV RL 70 RX4 yX4_isOpen wsX4_isOpen) := goodIn_app (goodIn_of _ (by decide +kernel)) ggL_isOpen_X4_isOpen
theorem dL_isOpen_0 : decode cL_isOpen 0 = .ok (.aload_n 2, 1) := by decide +kernel
theorem dL_isOpen_1 : decode cL_isOpen 1 = .ok (.iconst 0, 1) := by decide +kernel
theorem dL_isOpen_2 : decode cL_isOpen 2 = .ok (.aload_n 0, 1) := by decide +kernel
theorem dL_isOpen_3 : decode cL_isOpen 3 = .ok (.iload_n 1, 1) := by decide +kernel
theorem dL_isOpen_4 : decode cL_isOpen 4 = .ok (.invokevirtual 70, 3) := by decide +kernel
theorem dL_isOpen_7 : decode cL_isOpen 7 = .ok (.ifCond .eq 7, 3) := by decide +kernel
theorem dL_isOpen_10 : decode cL_isOpen 10 = .ok (.lconst 1, 1) := by decide +kernel
theorem dL_isOpen_11 : decode cL_isOpen 11 = .ok (.goto 4, 3) := by decide +kernel
theorem dL_isOpen_14 : decode cL_isOpen 14 = .ok (.lconst 0, 1) := by decide +kernel
theorem dL_isOpen_15 : decode cL_isOpen 15 = .ok (.lastore, 1) := by decide +kernel
theorem dL_isOpen_16 : decode cL_isOpen 16 = .ok (.goto 6, 3) := by decide +kernel
theorem dL_isOpen_19 : decode cL_isOpen 19 = .ok (.astore_n 3, 1) := by decide +kernel
theorem dL_isOpen_20 : decode cL_isOpen 20 = .ok (.iconst 1, 1) := by decide +kernel
theorem dL_isOpen_21 : decode cL_isOpen 21 = .ok (.ireturn, 1) := by decide +kernel
theorem dL_isOpen_22 : decode cL_isOpen 22 = .ok (.iconst 0, 1) := by decide +kernel
theorem dL_isOpen_23 : decode cL_isOpen 23 = .ok (.ireturn, 1) := by decide +kernel
set_option maxRecDepth 20000 in
theorem ggL_isPaidBack_X4_isPaidBack : GoodIn wsL_isPaidBack wsX4_isPaidBack := goodIn_ca (goodIn_r _ [6, 7, 8, 9, 10, 11, 12, 5, 13, 14, 15, 16, 17, 18, 19, 20, 21, 22, 23, 24, 25, 26, 27, 28, 29, 30, 31, 32, 33] (by decide +kernel) (by decide +kernel)) (goodIn_sub (fun _ h => List.mem_cons_of_mem _ (List.mem_append_right _ h)) (by decide +kernel))
set_option maxRecDepth 20000 in
theorem gL_isPaidBack_X4_isPaidBack : GoodIn wsL_isPaidBack (wsV RL 73 RX4 yX4_isPaidBack wsX4_isPaidBack) := goodIn_app (goodIn_of _ (by decide +kernel)) ggL_isPaidBack_X4_isPaidBack
theorem dL_isPaidBack_0 : decode cL_isPaidBack 0 = .ok (.aload_n 2, 1) := by decide +kernel
theorem dL_isPaidBack_1 : decode cL_isPaidBack 1 = .ok (.iconst 0, 1) := by decide +kernel
theorem dL_isPaidBack_2 : decode cL_isPaidBack 2 = .ok (.aload_n 0, 1) := by decide +kernel
theorem dL_isPaidBack_3 : decode cL_isPaidBack 3 = .ok (.iload_n 1, 1) := by decide +kernel
theorem dL_isPaidBack_4 : decode cL_isPaidBack 4 = .ok (.invokevirtual 73, 3) := by decide +kernel
theorem dL_isPaidBack_7 : decode cL_isPaidBack 7 = .ok (.ifCond .eq 7, 3) := by decide +kernel
theorem dL_isPaidBack_10 : decode cL_isPaidBack 10 = .ok (.lconst 1, 1) := by decide +kernel
theorem dL_isPaidBack_11 : decode cL_isPaidBack 11 = .ok (.goto 4, 3) := by decide +kernel
theorem dL_isPaidBack_14 : decode cL_isPaidBack 14 = .ok (.lconst 0, 1) := by decide +kernel
theorem dL_isPaidBack_15 : decode cL_isPaidBack 15 = .ok (.lastore, 1) := by decide +kernel
theorem dL_isPaidBack_16 : decode cL_isPaidBack 16 = .ok (.goto 6, 3) := by decide +kernel
theorem dL_isPaidBack_19 : decode cL_isPaidBack 19 = .ok (.astore_n 3, 1) := by decide +kernel
theorem dL_isPaidBack_20 : decode cL_isPaidBack 20 = .ok (.iconst 1, 1) := by decide +kernel
theorem dL_isPaidBack_21 : decode cL_isPaidBack 21 = .ok (.ireturn, 1) := by decide +kernel
theorem dL_isPaidBack_22 : decode cL_isPaidBack 22 = .ok (.iconst 0, 1) := by decide +kernel
theorem dL_isPaidBack_23 : decode cL_isPaidBack 23 = .ok (.ireturn, 1) := by decide +kernel
set_option maxRecDepth 20000 in
theorem ggL_viewIn_X4_viewIn : GoodIn wsL_viewIn wsX4_viewIn := goodIn_ca (goodIn_ca (goodIn_r _ [7, 8, 9, 10, 11, 12, 13, 14, 6, 15, 16, 17, 18, 19, 20, 21, 22, 23, 24, 25, 26, 27, 28, 29, 30, 31, 32, 33, 34, 35, 36, 37, 38, 39, 40, 41, 42, 43, 44, 45, 46, 47, 48, 49, 50, 51, 52, 53, 54, 55, 56, 57, 58, 59, 60, 61, 62, 63, 64, 65, 66, 67, 68, 69, 70, 71, 72, 73, 74, 75, 76, 77, 78, 79, 80, 81, 82, 83, 84, 85, 86, 87, 88, 89] (by decide +kernel) (by decide +kernel)) (goodIn_sub (fun _ h => List.mem_cons_of_mem _ (List.mem_append_left _ (List.mem_append_right _ h))) (by decide +kernel))) (goodIn_sub (fun _ h => List.mem_cons_of_mem _ (List.mem_append_right _ h)) (by decide +kernel))
set_option maxRecDepth 20000 in
theorem gL_viewIn_X4_viewIn : GoodIn wsL_viewIn (wsV RL 76 RX4 yX4_viewIn wsX4_viewIn) := goodIn_app (goodIn_of _ (by decide +kernel)) ggL_viewIn_X4_viewIn
theorem dL_viewIn_0 : decode cL_viewIn 0 = .ok (.aload_n 3, 1) := by decide +kernel
theorem dL_viewIn_1 : decode cL_viewIn 1 = .ok (.iconst 0, 1) := by decide +kernel
theorem dL_viewIn_2 : decode cL_viewIn 2 = .ok (.aload_n 0, 1) := by decide +kernel
theorem dL_viewIn_3 : decode cL_viewIn 3 = .ok (.iload_n 1, 1) := by decide +kernel
theorem dL_viewIn_4 : decode cL_viewIn 4 = .ok (.iload_n 2, 1) := by decide +kernel
theorem dL_viewIn_5 : decode cL_viewIn 5 = .ok (.invokevirtual 76, 3) := by decide +kernel
theorem dL_viewIn_8 : decode cL_viewIn 8 = .ok (.i2l, 1) := by decide +kernel
theorem dL_viewIn_9 : decode cL_viewIn 9 = .ok (.lastore, 1) := by decide +kernel
theorem dL_viewIn_10 : decode cL_viewIn 10 = .ok (.goto 11, 3) := by decide +kernel
theorem dL_viewIn_13 : decode cL_viewIn 13 = .ok (.astore 4, 2) := by decide +kernel
theorem dL_viewIn_15 : decode cL_viewIn 15 = .ok (.iconst 1, 1) := by decide +kernel
theorem dL_viewIn_16 : decode cL_viewIn 16 = .ok (.ireturn, 1) := by decide +kernel
theorem dL_viewIn_17 : decode cL_viewIn 17 = .ok (.astore 4, 2) := by decide +kernel
theorem dL_viewIn_19 : decode cL_viewIn 19 = .ok (.iconst 2, 1) := by decide +kernel
theorem dL_viewIn_20 : decode cL_viewIn 20 = .ok (.ireturn, 1) := by decide +kernel
theorem dL_viewIn_21 : decode cL_viewIn 21 = .ok (.iconst 0, 1) := by decide +kernel
theorem dL_viewIn_22 : decode cL_viewIn 22 = .ok (.ireturn, 1) := by decide +kernel
set_option maxRecDepth 20000 in
theorem ggL_daysUntilCollapse_X4_daysUntilCollapse : GoodIn wsL_daysUntilCollapse wsX4_daysUntilCollapse := goodIn_ca (goodIn_r _ [6, 7, 8, 9, 10, 11, 12, 13, 5, 14, 15, 16, 17, 18, 19, 20, 21, 22, 23, 24, 25, 26, 27, 28, 29, 30, 31, 32, 33, 34, 35, 36, 37, 38, 39, 40, 41, 42, 43, 44, 45, 46, 47, 48, 49, 50, 51, 52, 53, 54, 55, 56, 57, 58, 59, 60, 61, 62, 63, 64, 65, 66, 67, 68, 69, 70, 71, 72, 73, 74, 75, 76] (by decide +kernel) (by decide +kernel)) (goodIn_sub (fun _ h => List.mem_cons_of_mem _ (List.mem_append_right _ h)) (by decide +kernel))
set_option maxRecDepth 20000 in
theorem gL_daysUntilCollapse_X4_daysUntilCollapse : GoodIn wsL_daysUntilCollapse (wsV RL 79 RX4 yX4_daysUntilCollapse wsX4_daysUntilCollapse) := goodIn_app (goodIn_of _ (by decide +kernel)) ggL_daysUntilCollapse_X4_daysUntilCollapse
theorem dL_daysUntilCollapse_0 : decode cL_daysUntilCollapse 0 = .ok (.aload_n 2, 1) := by decide +kernel
theorem dL_daysUntilCollapse_1 : decode cL_daysUntilCollapse 1 = .ok (.iconst 0, 1) := by decide +kernel
theorem dL_daysUntilCollapse_2 : decode cL_daysUntilCollapse 2 = .ok (.aload_n 0, 1) := by decide +kernel
theorem dL_daysUntilCollapse_3 : decode cL_daysUntilCollapse 3 = .ok (.iload_n 1, 1) := by decide +kernel
theorem dL_daysUntilCollapse_4 : decode cL_daysUntilCollapse 4 = .ok (.invokevirtual 79, 3) := by decide +kernel
theorem dL_daysUntilCollapse_7 : decode cL_daysUntilCollapse 7 = .ok (.i2l, 1) := by decide +kernel
theorem dL_daysUntilCollapse_8 : decode cL_daysUntilCollapse 8 = .ok (.lastore, 1) := by decide +kernel
theorem dL_daysUntilCollapse_9 : decode cL_daysUntilCollapse 9 = .ok (.goto 6, 3) := by decide +kernel
theorem dL_daysUntilCollapse_12 : decode cL_daysUntilCollapse 12 = .ok (.astore_n 3, 1) := by decide +kernel
theorem dL_daysUntilCollapse_13 : decode cL_daysUntilCollapse 13 = .ok (.iconst 1, 1) := by decide +kernel
theorem dL_daysUntilCollapse_14 : decode cL_daysUntilCollapse 14 = .ok (.ireturn, 1) := by decide +kernel
theorem dL_daysUntilCollapse_15 : decode cL_daysUntilCollapse 15 = .ok (.iconst 0, 1) := by decide +kernel
theorem dL_daysUntilCollapse_16 : decode cL_daysUntilCollapse 16 = .ok (.ireturn, 1) := by decide +kernel
set_option maxRecDepth 20000 in
theorem ggL_daysUntilFirst_X4_daysUntilFirst : GoodIn wsL_daysUntilFirst wsX4_daysUntilFirst := goodIn_ca (goodIn_r _ [6, 7, 8, 9, 10, 11, 12, 13, 5, 14, 15, 16, 17, 18, 19, 20, 21, 22, 23, 24, 25, 26, 27, 28, 29, 30, 31, 32, 33, 34, 35, 36, 37, 38, 39, 40, 41, 42, 43, 44, 45, 46, 47, 48, 49, 50, 51, 52, 53, 54, 55, 56, 57, 58, 59, 60, 61, 62, 63, 64, 65, 66, 67, 68, 69, 70, 71, 72, 73, 74, 75, 76, 77, 78, 79, 80, 81, 82, 83, 84, 85, 86, 87, 88] (by decide +kernel) (by decide +kernel)) (goodIn_sub (fun _ h => List.mem_cons_of_mem _ (List.mem_append_right _ h)) (by decide +kernel))
set_option maxRecDepth 20000 in
theorem gL_daysUntilFirst_X4_daysUntilFirst : GoodIn wsL_daysUntilFirst (wsV RL 82 RX4 yX4_daysUntilFirst wsX4_daysUntilFirst) := goodIn_app (goodIn_of _ (by decide +kernel)) ggL_daysUntilFirst_X4_daysUntilFirst
theorem dL_daysUntilFirst_0 : decode cL_daysUntilFirst 0 = .ok (.aload_n 2, 1) := by decide +kernel
theorem dL_daysUntilFirst_1 : decode cL_daysUntilFirst 1 = .ok (.iconst 0, 1) := by decide +kernel
theorem dL_daysUntilFirst_2 : decode cL_daysUntilFirst 2 = .ok (.aload_n 0, 1) := by decide +kernel
theorem dL_daysUntilFirst_3 : decode cL_daysUntilFirst 3 = .ok (.iload_n 1, 1) := by decide +kernel
theorem dL_daysUntilFirst_4 : decode cL_daysUntilFirst 4 = .ok (.invokevirtual 82, 3) := by decide +kernel
theorem dL_daysUntilFirst_7 : decode cL_daysUntilFirst 7 = .ok (.i2l, 1) := by decide +kernel
theorem dL_daysUntilFirst_8 : decode cL_daysUntilFirst 8 = .ok (.lastore, 1) := by decide +kernel
theorem dL_daysUntilFirst_9 : decode cL_daysUntilFirst 9 = .ok (.goto 6, 3) := by decide +kernel
theorem dL_daysUntilFirst_12 : decode cL_daysUntilFirst 12 = .ok (.astore_n 3, 1) := by decide +kernel
theorem dL_daysUntilFirst_13 : decode cL_daysUntilFirst 13 = .ok (.iconst 1, 1) := by decide +kernel
theorem dL_daysUntilFirst_14 : decode cL_daysUntilFirst 14 = .ok (.ireturn, 1) := by decide +kernel
theorem dL_daysUntilFirst_15 : decode cL_daysUntilFirst 15 = .ok (.iconst 0, 1) := by decide +kernel
theorem dL_daysUntilFirst_16 : decode cL_daysUntilFirst 16 = .ok (.ireturn, 1) := by decide +kernel
set_option maxRecDepth 20000 in
theorem ggL_bestCut_X4_bestCut : GoodIn wsL_bestCut wsX4_bestCut := goodIn_ca (goodIn_r _ [6, 7, 8, 9, 10, 11, 12, 13, 14, 5, 15, 16, 17, 18, 19, 20, 21, 22, 23, 24, 25, 26, 27, 28, 29, 30, 31, 32, 33, 34, 35, 36, 37, 38, 39, 40, 41, 42, 43, 44, 45, 46, 47, 48, 49, 50, 51, 52, 53, 54, 55, 56, 57, 58, 59, 60, 61, 62, 63, 64, 65, 66, 67, 68, 69, 70, 71, 72, 73, 74, 75, 76, 77, 78, 79, 80, 81, 82, 83, 84, 85, 86, 87, 88, 89] (by decide +kernel) (by decide +kernel)) (goodIn_sub (fun _ h => List.mem_cons_of_mem _ (List.mem_append_right _ h)) (by decide +kernel))
set_option maxRecDepth 20000 in
theorem gL_bestCut_X4_bestCut : GoodIn wsL_bestCut (wsV RL 85 RX4 yX4_bestCut wsX4_bestCut) := goodIn_app (goodIn_of _ (by decide +kernel)) ggL_bestCut_X4_bestCut
theorem dL_bestCut_0 : decode cL_bestCut 0 = .ok (.aload_n 2, 1) := by decide +kernel
theorem dL_bestCut_1 : decode cL_bestCut 1 = .ok (.iconst 0, 1) := by decide +kernel
theorem dL_bestCut_2 : decode cL_bestCut 2 = .ok (.aload_n 0, 1) := by decide +kernel
theorem dL_bestCut_3 : decode cL_bestCut 3 = .ok (.iload_n 1, 1) := by decide +kernel
theorem dL_bestCut_4 : decode cL_bestCut 4 = .ok (.invokevirtual 85, 3) := by decide +kernel
theorem dL_bestCut_7 : decode cL_bestCut 7 = .ok (.i2l, 1) := by decide +kernel
theorem dL_bestCut_8 : decode cL_bestCut 8 = .ok (.lastore, 1) := by decide +kernel
theorem dL_bestCut_9 : decode cL_bestCut 9 = .ok (.goto 6, 3) := by decide +kernel
theorem dL_bestCut_12 : decode cL_bestCut 12 = .ok (.astore_n 3, 1) := by decide +kernel
theorem dL_bestCut_13 : decode cL_bestCut 13 = .ok (.iconst 1, 1) := by decide +kernel
theorem dL_bestCut_14 : decode cL_bestCut 14 = .ok (.ireturn, 1) := by decide +kernel
theorem dL_bestCut_15 : decode cL_bestCut 15 = .ok (.iconst 0, 1) := by decide +kernel
theorem dL_bestCut_16 : decode cL_bestCut 16 = .ok (.ireturn, 1) := by decide +kernel
set_option maxRecDepth 20000 in
theorem ggL_purseIn_X4_purseIn : GoodIn wsL_purseIn wsX4_purseIn := goodIn_ca (goodIn_r _ [6, 7, 8, 9, 10, 11, 5, 12, 13, 14, 15, 16, 17, 18, 19, 20, 21, 22, 23, 24, 25, 26, 27, 28, 29, 30, 31, 32, 33, 34, 35, 36, 37, 38, 39, 40, 41, 42, 43, 44, 45, 46, 47, 48, 49, 50, 51, 52, 53, 54, 55, 56, 57, 58, 59, 60, 61, 62, 63, 64, 65, 66, 67, 68, 69, 70, 71, 72, 73, 74, 75, 76, 77, 78, 79, 80, 81, 82, 83, 84, 85, 86, 87, 88, 89, 90, 91, 92, 93, 94, 95, 96, 97, 98, 99, 100, 101, 102, 103, 104, 105, 106, 107, 108, 109, 110, 111, 112, 113, 114, 115, 116, 117, 118, 119, 120, 121, 122, 123, 124, 125, 126, 127, 128, 129, 130, 131, 132, 133, 134, 135, 136, 137, 138, 139, 140, 141, 142, 143, 144] (by decide +kernel) (by decide +kernel)) (goodIn_sub (fun _ h => List.mem_cons_of_mem _ (List.mem_append_right _ h)) (by decide +kernel))
set_option maxRecDepth 20000 in
theorem gL_purseIn_X4_purseIn : GoodIn wsL_purseIn (wsV RL 88 RX4 yX4_purseIn wsX4_purseIn) := goodIn_app (goodIn_of _ (by decide +kernel)) ggL_purseIn_X4_purseIn
theorem dL_purseIn_0 : decode cL_purseIn 0 = .ok (.aload_n 2, 1) := by decide +kernel
theorem dL_purseIn_1 : decode cL_purseIn 1 = .ok (.iconst 0, 1) := by decide +kernel
theorem dL_purseIn_2 : decode cL_purseIn 2 = .ok (.aload_n 0, 1) := by decide +kernel
theorem dL_purseIn_3 : decode cL_purseIn 3 = .ok (.iload_n 1, 1) := by decide +kernel
theorem dL_purseIn_4 : decode cL_purseIn 4 = .ok (.invokevirtual 88, 3) := by decide +kernel
theorem dL_purseIn_7 : decode cL_purseIn 7 = .ok (.i2l, 1) := by decide +kernel
theorem dL_purseIn_8 : decode cL_purseIn 8 = .ok (.lastore, 1) := by decide +kernel
theorem dL_purseIn_9 : decode cL_purseIn 9 = .ok (.goto 6, 3) := by decide +kernel
theorem dL_purseIn_12 : decode cL_purseIn 12 = .ok (.astore_n 3, 1) := by decide +kernel
theorem dL_purseIn_13 : decode cL_purseIn 13 = .ok (.iconst 1, 1) := by decide +kernel
theorem dL_purseIn_14 : decode cL_purseIn 14 = .ok (.ireturn, 1) := by decide +kernel
theorem dL_purseIn_15 : decode cL_purseIn 15 = .ok (.iconst 0, 1) := by decide +kernel
theorem dL_purseIn_16 : decode cL_purseIn 16 = .ok (.ireturn, 1) := by decide +kernel
set_option maxRecDepth 20000 in
theorem ggL_law_X4_init : GoodIn wsL_law wsX4_init := goodIn_r _ [9, 10, 11, 12, 13, 14, 15, 16, 17, 18, 19, 20, 21, 22, 23, 24, 25, 26, 27, 28, 29, 30, 31, 32, 33, 34, 35, 36, 37, 38, 39, 40, 41, 42, 43, 44, 45, 46, 47, 48, 49, 50, 731, 732, 733, 734, 735, 719, 720, 736, 737, 738, 739, 740, 741, 742, 743, 744, 745, 746, 747] (by decide +kernel) (by decide +kernel)
set_option maxRecDepth 20000 in
theorem gL_law_X4_init : GoodIn wsL_law (wsX4_init) := ggL_law_X4_init
set_option maxRecDepth 20000 in
theorem ggL_law_X5_init : GoodIn wsL_law wsX5_init := goodIn_r _ [53, 54, 11, 12, 55, 35, 56, 57, 58, 59, 60, 61, 721, 722, 723, 724, 725, 726, 727, 728, 729, 730] (by decide +kernel) (by decide +kernel)
set_option maxRecDepth 20000 in
theorem gL_law_X5_init : GoodIn wsL_law (wsX5_init) := ggL_law_X5_init
set_option maxRecDepth 20000 in
theorem ggL_law_L_addRuin : GoodIn wsL_law wsL_addRuin := goodIn_ca (goodIn_ca (goodIn_r _ [65, 66, 67, 68, 69, 70, 2, 71, 72, 73, 74, 75, 16, 76, 77, 78, 79, 80, 81, 82, 83, 23, 84, 42, 36, 37, 38, 39, 719, 720, 731, 732, 733, 734, 735, 736, 737, 738, 739, 740, 741, 742] (by decide +kernel) (by decide +kernel)) (goodIn_sub (fun _ h => List.mem_append_left _ (List.mem_append_left _ (List.mem_append_right _ h))) (by decide +kernel))) (goodIn_sub (fun _ h => List.mem_append_left _ (List.mem_append_right _ h)) (by decide +kernel))
set_option maxRecDepth 20000 in
theorem gL_law_L_addRuin : GoodIn wsL_law (va_wsS RL 95 yL_addRuin wsL_addRuin) := goodIn_app (goodIn_of _ (by decide +kernel)) ggL_law_L_addRuin
set_option maxRecDepth 20000 in
theorem ggL_law_X5_addRuin : GoodIn wsL_law wsX5_addRuin := goodIn_r _ [88, 89, 90, 56, 91, 92, 5, 93, 94, 95, 96, 97, 98, 99, 100, 101, 60, 721, 722, 723, 724, 725, 726, 727, 728, 729, 730] (by decide +kernel) (by decide +kernel)
set_option maxRecDepth 20000 in
theorem gL_law_X5_addRuin : GoodIn wsL_law (wsV RL 100 RX5 yX5_addRuin wsX5_addRuin) := goodIn_app (goodIn_of _ (by decide +kernel)) ggL_law_X5_addRuin
set_option maxRecDepth 20000 in
theorem ggL_law_X5_thrown : GoodIn wsL_law wsX5_thrown := goodIn_r _ [105, 89, 721, 722, 723, 724, 725, 726, 727, 728, 729, 730] (by decide +kernel) (by decide +kernel)
set_option maxRecDepth 20000 in
theorem gL_law_X5_thrown : GoodIn wsL_law (wsV RL 101 RX5 yX5_thrown wsX5_thrown) := goodIn_app (goodIn_of _ (by decide +kernel)) ggL_law_X5_thrown
set_option maxRecDepth 20000 in
theorem ggL_law_L_cutIvy : GoodIn wsL_law wsL_cutIvy := goodIn_ca (goodIn_ca (goodIn_r _ [108, 109, 66, 110, 111, 112, 2, 113, 72, 73, 16, 76, 114, 115, 116, 117, 118, 119, 120, 121, 122, 123, 23, 124, 42, 78, 79, 80, 125, 126, 127, 128, 37, 129, 130, 131, 132, 719, 720, 731, 732, 733, 734, 735, 736, 737, 738, 739, 740, 741, 742] (by decide +kernel) (by decide +kernel)) (goodIn_sub (fun _ h => List.mem_append_left _ (List.mem_append_left _ (List.mem_append_right _ h))) (by decide +kernel))) (goodIn_sub (fun _ h => List.mem_append_right _ h) (by decide +kernel))
set_option maxRecDepth 20000 in
theorem gL_law_L_cutIvy : GoodIn wsL_law (va_wsS RL 105 yL_cutIvy wsL_cutIvy) := goodIn_app (goodIn_of _ (by decide +kernel)) ggL_law_L_cutIvy
set_option maxRecDepth 20000 in
theorem ggL_law_X5_cutIvy : GoodIn wsL_law wsX5_cutIvy := goodIn_r _ [136, 89, 137, 130, 131, 132, 138, 139, 140, 5, 141, 90, 91, 92, 93, 94, 95, 96, 97, 142, 143, 144, 145, 60, 98, 99, 100, 101, 721, 722, 723, 724, 725, 726, 727, 728, 729, 730] (by decide +kernel) (by decide +kernel)
set_option maxRecDepth 20000 in
theorem gL_law_X5_cutIvy : GoodIn wsL_law (wsV RL 108 RX5 yX5_cutIvy wsX5_cutIvy) := goodIn_app (goodIn_of _ (by decide +kernel)) ggL_law_X5_cutIvy
set_option maxRecDepth 20000 in
theorem ggL_law_L_prop : GoodIn wsL_law wsL_prop := goodIn_ca (goodIn_ca (goodIn_r _ [148, 109, 67, 149, 150, 151, 2, 152, 74, 75, 16, 76, 153, 154, 115, 116, 117, 118, 119, 120, 121, 122, 123, 23, 124, 42, 155, 156, 157, 158, 36, 159, 719, 720, 731, 732, 733, 734, 735, 736, 737, 738, 739, 740, 741, 742] (by decide +kernel) (by decide +kernel)) (goodIn_sub (fun _ h => List.mem_append_left _ (List.mem_append_right _ h)) (by decide +kernel))) (goodIn_sub (fun _ h => List.mem_append_right _ h) (by decide +kernel))
set_option maxRecDepth 20000 in
theorem gL_law_L_prop : GoodIn wsL_law (va_wsS RL 109 yL_prop wsL_prop) := goodIn_app (goodIn_of _ (by decide +kernel)) ggL_law_L_prop
set_option maxRecDepth 20000 in
theorem ggL_law_X5_prop : GoodIn wsL_law wsX5_prop := goodIn_r _ [163, 89, 60, 138, 139, 140, 5, 141, 90, 91, 92, 93, 94, 95, 96, 97, 164, 165, 166, 167, 142, 143, 144, 145, 98, 99, 100, 101, 721, 722, 723, 724, 725, 726, 727, 728, 729, 730] (by decide +kernel) (by decide +kernel)
set_option maxRecDepth 20000 in
theorem gL_law_X5_prop : GoodIn wsL_law (wsV RL 112 RX5 yX5_prop wsX5_prop) := goodIn_app (goodIn_of _ (by decide +kernel)) ggL_law_X5_prop
set_option maxRecDepth 20000 in
theorem ggL_law_L_setPrice : GoodIn wsL_law wsL_setPrice := goodIn_ca (goodIn_ca (goodIn_r _ [170, 109, 66, 171, 172, 173, 2, 174, 72, 73, 16, 76, 175, 115, 116, 117, 118, 119, 120, 121, 122, 123, 23, 124, 42, 78, 79, 80, 719, 720, 731, 732, 733, 734, 735, 736, 737, 738, 739, 740, 741, 742] (by decide +kernel) (by decide +kernel)) (goodIn_sub (fun _ h => List.mem_append_left _ (List.mem_append_left _ (List.mem_append_right _ h))) (by decide +kernel))) (goodIn_sub (fun _ h => List.mem_append_right _ h) (by decide +kernel))
set_option maxRecDepth 20000 in
theorem gL_law_L_setPrice : GoodIn wsL_law (va_wsS RL 113 yL_setPrice wsL_setPrice) := goodIn_app (goodIn_of _ (by decide +kernel)) ggL_law_L_setPrice
set_option maxRecDepth 20000 in
theorem ggL_law_X5_setPrice : GoodIn wsL_law wsX5_setPrice := goodIn_r _ [179, 89, 56, 138, 139, 140, 5, 141, 90, 91, 92, 93, 94, 95, 96, 97, 721, 722, 723, 724, 725, 726, 727, 728, 729, 730] (by decide +kernel) (by decide +kernel)
set_option maxRecDepth 20000 in
theorem gL_law_X5_setPrice : GoodIn wsL_law (wsV RL 115 RX5 yX5_setPrice wsX5_setPrice) := goodIn_app (goodIn_of _ (by decide +kernel)) ggL_law_X5_setPrice
set_option maxRecDepth 20000 in
theorem ggL_law_L_setGuests : GoodIn wsL_law wsL_setGuests := goodIn_ca (goodIn_r _ [182, 66, 183, 184, 185, 2, 186, 72, 73, 16, 187, 78, 79, 80, 719, 720, 731, 732, 733, 734, 735] (by decide +kernel) (by decide +kernel)) (goodIn_sub (fun _ h => List.mem_append_left _ (List.mem_append_left _ (List.mem_append_right _ h))) (by decide +kernel))
set_option maxRecDepth 20000 in
theorem gL_law_L_setGuests : GoodIn wsL_law (va_wsS RL 116 yL_setGuests wsL_setGuests) := goodIn_app (goodIn_of _ (by decide +kernel)) ggL_law_L_setGuests
set_option maxRecDepth 20000 in
theorem ggL_law_X5_setGuests : GoodIn wsL_law wsX5_setGuests := goodIn_r _ [191, 89, 55, 91, 92, 5, 93, 94, 95, 96, 97, 721, 722, 723, 724, 725, 726, 727, 728, 729, 730] (by decide +kernel) (by decide +kernel)
set_option maxRecDepth 20000 in
theorem gL_law_X5_setGuests : GoodIn wsL_law (wsV RL 118 RX5 yX5_setGuests wsX5_setGuests) := goodIn_app (goodIn_of _ (by decide +kernel)) ggL_law_X5_setGuests
set_option maxRecDepth 20000 in
theorem ggL_law_L_sellTicket : GoodIn wsL_law wsL_sellTicket := goodIn_ca (goodIn_ca (goodIn_ca (goodIn_r _ [194, 109, 66, 67, 195, 196, 197, 2, 198, 72, 73, 74, 75, 16, 76, 199, 200, 175, 154, 201, 115, 116, 117, 118, 119, 120, 121, 122, 123, 23, 124, 42, 78, 79, 80, 155, 156, 157, 158, 36, 159, 202, 203, 204, 27, 205, 50, 46, 47, 48, 49, 719, 720, 731, 732, 733, 734, 735, 743, 744, 745, 746, 747, 736, 737, 738, 739, 740, 741, 742] (by decide +kernel) (by decide +kernel)) (goodIn_sub (fun _ h => List.mem_append_left _ (List.mem_append_left _ (List.mem_append_right _ h))) (by decide +kernel))) (goodIn_sub (fun _ h => List.mem_append_left _ (List.mem_append_right _ h)) (by decide +kernel))) (goodIn_sub (fun _ h => List.mem_append_right _ h) (by decide +kernel))
set_option maxRecDepth 20000 in
theorem gL_law_L_sellTicket : GoodIn wsL_law (va_wsS RL 119 yL_sellTicket wsL_sellTicket) := goodIn_app (goodIn_of _ (by decide +kernel)) ggL_law_L_sellTicket
set_option maxRecDepth 20000 in
theorem ggL_law_X5_sellTicket : GoodIn wsL_law wsX5_sellTicket := goodIn_r _ [209, 89, 210, 57, 58, 60, 59, 56, 138, 139, 140, 5, 141, 90, 91, 92, 93, 94, 95, 96, 97, 164, 165, 166, 167, 142, 143, 144, 145, 721, 722, 723, 724, 725, 726, 727, 728, 729, 730] (by decide +kernel) (by decide +kernel)
set_option maxRecDepth 20000 in
theorem gL_law_X5_sellTicket : GoodIn wsL_law (wsV RL 121 RX5 yX5_sellTicket wsX5_sellTicket) := goodIn_app (goodIn_of _ (by decide +kernel)) ggL_law_X5_sellTicket
set_option maxRecDepth 20000 in
theorem ggL_law_L_pass : GoodIn wsL_law wsL_pass := goodIn_ca (goodIn_r _ [213, 66, 214, 215, 216, 2, 217, 16, 154, 218, 219, 220, 72, 73, 78, 79, 80, 221, 222, 223, 15, 224, 31, 28, 29, 24, 225, 226, 227, 228, 229, 230, 231, 232, 233, 234, 235, 236, 237, 238, 239, 240, 241, 23, 242, 42, 40, 41, 36, 243, 244, 245, 246, 39, 247, 248, 249, 250, 38, 251, 252, 253, 254, 37, 255, 256, 257, 258, 259, 260, 261, 262, 30, 263, 264, 265, 27, 266, 50, 49, 47, 46, 48, 267, 156, 157, 158, 159, 122, 123, 124, 268, 269, 270, 271, 272, 273, 274, 275, 276, 277, 278, 279, 280, 281, 282, 283, 284, 719, 720, 731, 732, 733, 734, 735, 736, 737, 738, 739, 740, 741, 742, 743, 744, 745, 746, 747] (by decide +kernel) (by decide +kernel)) (goodIn_sub (fun _ h => List.mem_append_left _ (List.mem_append_left _ (List.mem_append_right _ h))) (by decide +kernel))
set_option maxRecDepth 20000 in
theorem gL_law_L_pass : GoodIn wsL_law (va_wsS RL 122 yL_pass wsL_pass) := goodIn_app (goodIn_of _ (by decide +kernel)) ggL_law_L_pass
set_option maxRecDepth 20000 in
theorem ggL_law_X5_pass : GoodIn wsL_law wsX5_pass := goodIn_r _ [288, 89, 60, 91, 92, 5, 93, 94, 95, 96, 97, 289, 290, 291, 292, 293, 294, 295, 296, 90, 297, 298, 299, 300, 56, 301, 302, 303, 304, 164, 165, 166, 167, 142, 143, 144, 145, 305, 306, 307, 308, 309, 310, 311, 312, 313, 314, 315, 316, 317, 318, 319, 320, 321, 322, 131, 323, 324, 325, 326, 327, 55, 328, 329, 330, 331, 210, 58, 57, 59, 332, 333, 334, 335, 98, 99, 100, 101, 336, 337, 338, 339, 721, 722, 723, 724, 725, 726, 727, 728, 729, 730] (by decide +kernel) (by decide +kernel)
set_option maxRecDepth 20000 in
theorem gL_law_X5_pass : GoodIn wsL_law (wsV RL 124 RX5 yX5_pass wsX5_pass) := goodIn_app (goodIn_of _ (by decide +kernel)) ggL_law_X5_pass
set_option maxRecDepth 20000 in
theorem ggL_law_X4_day : GoodIn wsL_law wsX4_day := goodIn_r _ [343, 16, 201, 719, 720, 731, 732, 733, 734, 735] (by decide +kernel) (by decide +kernel)
set_option maxRecDepth 20000 in
theorem gL_law_X4_day : GoodIn wsL_law (wsV RL 125 RX4 yX4_day wsX4_day) := goodIn_app (goodIn_of _ (by decide +kernel)) ggL_law_X4_day
set_option maxRecDepth 20000 in
theorem ggL_law_X5_day : GoodIn wsL_law wsX5_day := goodIn_r _ [347, 60, 348, 349, 350, 5, 351, 89, 721, 722, 723, 724, 725, 726, 727, 728, 729, 730] (by decide +kernel) (by decide +kernel)
set_option maxRecDepth 20000 in
theorem gL_law_X5_day : GoodIn wsL_law (wsV RL 128 RX5 yX5_day wsX5_day) := goodIn_app (goodIn_of _ (by decide +kernel)) ggL_law_X5_day
set_option maxRecDepth 20000 in
theorem ggL_law_X4_phase : GoodIn wsL_law wsX4_phase := goodIn_r _ [355, 16, 201, 356, 237, 234, 238, 719, 720, 731, 732, 733, 734, 735] (by decide +kernel) (by decide +kernel)
set_option maxRecDepth 20000 in
theorem gL_law_X4_phase : GoodIn wsL_law (wsV RL 129 RX4 yX4_phase wsX4_phase) := goodIn_app (goodIn_of _ (by decide +kernel)) ggL_law_X4_phase
set_option maxRecDepth 20000 in
theorem ggL_law_X5_phase : GoodIn wsL_law wsX5_phase := goodIn_r _ [360, 60, 348, 349, 350, 5, 351, 89, 721, 722, 723, 724, 725, 726, 727, 728, 729, 730] (by decide +kernel) (by decide +kernel)
set_option maxRecDepth 20000 in
theorem gL_law_X5_phase : GoodIn wsL_law (wsV RL 132 RX5 yX5_phase wsX5_phase) := goodIn_app (goodIn_of _ (by decide +kernel)) ggL_law_X5_phase
set_option maxRecDepth 20000 in
theorem ggL_law_X4_brightness : GoodIn wsL_law wsX4_brightness := goodIn_r _ [364, 16, 201, 365, 233, 234, 235, 236, 237, 238, 719, 720, 731, 732, 733, 734, 735] (by decide +kernel) (by decide +kernel)
set_option maxRecDepth 20000 in
theorem gL_law_X4_brightness : GoodIn wsL_law (wsV RL 133 RX4 yX4_brightness wsX4_brightness) := goodIn_app (goodIn_of _ (by decide +kernel)) ggL_law_X4_brightness
set_option maxRecDepth 20000 in
theorem ggL_law_X5_brightness : GoodIn wsL_law wsX5_brightness := goodIn_r _ [369, 317, 318, 319, 5, 320, 60, 321, 322, 131, 323, 348, 349, 350, 351, 89, 721, 722, 723, 724, 725, 726, 727, 728, 729, 730] (by decide +kernel) (by decide +kernel)
set_option maxRecDepth 20000 in
theorem gL_law_X5_brightness : GoodIn wsL_law (wsV RL 136 RX5 yX5_brightness wsX5_brightness) := goodIn_app (goodIn_of _ (by decide +kernel)) ggL_law_X5_brightness
set_option maxRecDepth 20000 in
theorem ggL_law_X4_daysUntilFullMoon : GoodIn wsL_law wsX4_daysUntilFullMoon := goodIn_r _ [373, 16, 201, 374, 375, 234, 376, 236, 237, 238, 719, 720, 731, 732, 733, 734, 735] (by decide +kernel) (by decide +kernel)
set_option maxRecDepth 20000 in
theorem gL_law_X4_daysUntilFullMoon : GoodIn wsL_law (wsV RL 137 RX4 yX4_daysUntilFullMoon wsX4_daysUntilFullMoon) := goodIn_app (goodIn_of _ (by decide +kernel)) ggL_law_X4_daysUntilFullMoon
set_option maxRecDepth 20000 in
theorem ggL_law_X5_daysUntilFullMoon : GoodIn wsL_law wsX5_daysUntilFullMoon := goodIn_r _ [380, 60, 348, 349, 350, 5, 351, 89, 721, 722, 723, 724, 725, 726, 727, 728, 729, 730] (by decide +kernel) (by decide +kernel)
set_option maxRecDepth 20000 in
theorem gL_law_X5_daysUntilFullMoon : GoodIn wsL_law (wsV RL 140 RX5 yX5_daysUntilFullMoon wsX5_daysUntilFullMoon) := goodIn_app (goodIn_of _ (by decide +kernel)) ggL_law_X5_daysUntilFullMoon
set_option maxRecDepth 20000 in
theorem ggL_law_X4_ruins : GoodIn wsL_law wsX4_ruins := goodIn_r _ [384, 16, 76, 77, 719, 720, 731, 732, 733, 734, 735, 736, 737, 738, 739, 740, 741, 742] (by decide +kernel) (by decide +kernel)
set_option maxRecDepth 20000 in
theorem gL_law_X4_ruins : GoodIn wsL_law (wsV RL 141 RX4 yX4_ruins wsX4_ruins) := goodIn_app (goodIn_of _ (by decide +kernel)) ggL_law_X4_ruins
set_option maxRecDepth 20000 in
theorem ggL_law_X5_ruins : GoodIn wsL_law wsX5_ruins := goodIn_r _ [388, 90, 348, 349, 350, 5, 351, 89, 721, 722, 723, 724, 725, 726, 727, 728, 729, 730] (by decide +kernel) (by decide +kernel)
set_option maxRecDepth 20000 in
theorem gL_law_X5_ruins : GoodIn wsL_law (wsV RL 144 RX5 yX5_ruins wsX5_ruins) := goodIn_app (goodIn_of _ (by decide +kernel)) ggL_law_X5_ruins
set_option maxRecDepth 20000 in
theorem ggL_law_X4_standing : GoodIn wsL_law wsX4_standing := goodIn_r _ [392, 16, 76, 393, 394, 395, 23, 396, 42, 36, 719, 720, 731, 732, 733, 734, 735, 736, 737, 738, 739, 740, 741, 742] (by decide +kernel) (by decide +kernel)
set_option maxRecDepth 20000 in
theorem gL_law_X4_standing : GoodIn wsL_law (wsV RL 145 RX4 yX4_standing wsX4_standing) := goodIn_app (goodIn_of _ (by decide +kernel)) ggL_law_X4_standing
set_option maxRecDepth 20000 in
theorem ggL_law_X5_standing : GoodIn wsL_law wsX5_standing := goodIn_r _ [400, 401, 402, 403, 5, 404, 90, 164, 165, 166, 167, 142, 143, 144, 145, 60, 348, 349, 350, 351, 89, 721, 722, 723, 724, 725, 726, 727, 728, 729, 730] (by decide +kernel) (by decide +kernel)
set_option maxRecDepth 20000 in
theorem gL_law_X5_standing : GoodIn wsL_law (wsV RL 148 RX5 yX5_standing wsX5_standing) := goodIn_app (goodIn_of _ (by decide +kernel)) ggL_law_X5_standing
set_option maxRecDepth 20000 in
theorem ggL_law_X4_purse : GoodIn wsL_law wsX4_purse := goodIn_r _ [408, 16, 154, 719, 720, 731, 732, 733, 734, 735] (by decide +kernel) (by decide +kernel)
set_option maxRecDepth 20000 in
theorem gL_law_X4_purse : GoodIn wsL_law (wsV RL 149 RX4 yX4_purse wsX4_purse) := goodIn_app (goodIn_of _ (by decide +kernel)) ggL_law_X4_purse
set_option maxRecDepth 20000 in
theorem ggL_law_X5_purse : GoodIn wsL_law wsX5_purse := goodIn_r _ [412, 60, 348, 349, 350, 5, 351, 89, 721, 722, 723, 724, 725, 726, 727, 728, 729, 730] (by decide +kernel) (by decide +kernel)
set_option maxRecDepth 20000 in
theorem gL_law_X5_purse : GoodIn wsL_law (wsV RL 152 RX5 yX5_purse wsX5_purse) := goodIn_app (goodIn_of _ (by decide +kernel)) ggL_law_X5_purse
set_option maxRecDepth 20000 in
theorem ggL_law_L_wallsOf : GoodIn wsL_law wsL_wallsOf := goodIn_ca (goodIn_r _ [415, 109, 416, 417, 418, 2, 419, 16, 76, 153, 115, 116, 117, 118, 119, 120, 121, 122, 123, 23, 124, 42, 719, 720, 731, 732, 733, 734, 735, 736, 737, 738, 739, 740, 741, 742] (by decide +kernel) (by decide +kernel)) (goodIn_sub (fun _ h => List.mem_append_right _ h) (by decide +kernel))
set_option maxRecDepth 20000 in
theorem gL_law_L_wallsOf : GoodIn wsL_law (va_wsS RL 153 yL_wallsOf wsL_wallsOf) := goodIn_app (goodIn_of _ (by decide +kernel)) ggL_law_L_wallsOf
set_option maxRecDepth 20000 in
theorem ggL_law_X5_wallsOf : GoodIn wsL_law wsX5_wallsOf := goodIn_r _ [423, 424, 425, 426, 5, 427, 89, 138, 139, 140, 141, 90, 91, 92, 93, 142, 143, 144, 145, 60, 94, 95, 96, 97, 721, 722, 723, 724, 725, 726, 727, 728, 729, 730] (by decide +kernel) (by decide +kernel)
set_option maxRecDepth 20000 in
theorem gL_law_X5_wallsOf : GoodIn wsL_law (wsV RL 155 RX5 yX5_wallsOf wsX5_wallsOf) := goodIn_app (goodIn_of _ (by decide +kernel)) ggL_law_X5_wallsOf
set_option maxRecDepth 20000 in
theorem ggL_law_L_ivyOf : GoodIn wsL_law wsL_ivyOf := goodIn_ca (goodIn_r _ [430, 109, 431, 432, 433, 2, 434, 16, 76, 114, 115, 116, 117, 118, 119, 120, 121, 122, 123, 23, 124, 42, 719, 720, 731, 732, 733, 734, 735, 736, 737, 738, 739, 740, 741, 742] (by decide +kernel) (by decide +kernel)) (goodIn_sub (fun _ h => List.mem_append_right _ h) (by decide +kernel))
set_option maxRecDepth 20000 in
theorem gL_law_L_ivyOf : GoodIn wsL_law (va_wsS RL 156 yL_ivyOf wsL_ivyOf) := goodIn_app (goodIn_of _ (by decide +kernel)) ggL_law_L_ivyOf
set_option maxRecDepth 20000 in
theorem ggL_law_X5_ivyOf : GoodIn wsL_law wsX5_ivyOf := goodIn_r _ [438, 424, 425, 426, 5, 427, 89, 138, 139, 140, 141, 90, 91, 92, 93, 142, 143, 144, 145, 60, 94, 95, 96, 97, 721, 722, 723, 724, 725, 726, 727, 728, 729, 730] (by decide +kernel) (by decide +kernel)
set_option maxRecDepth 20000 in
theorem gL_law_X5_ivyOf : GoodIn wsL_law (wsV RL 158 RX5 yX5_ivyOf wsX5_ivyOf) := goodIn_app (goodIn_of _ (by decide +kernel)) ggL_law_X5_ivyOf
set_option maxRecDepth 20000 in
theorem ggL_law_L_gradeOf : GoodIn wsL_law wsL_gradeOf := goodIn_ca (goodIn_r _ [441, 109, 442, 443, 444, 2, 445, 16, 76, 115, 116, 117, 118, 119, 120, 121, 122, 123, 23, 124, 42, 446, 252, 253, 254, 37, 719, 720, 731, 732, 733, 734, 735, 736, 737, 738, 739, 740, 741, 742] (by decide +kernel) (by decide +kernel)) (goodIn_sub (fun _ h => List.mem_append_right _ h) (by decide +kernel))
set_option maxRecDepth 20000 in
theorem gL_law_L_gradeOf : GoodIn wsL_law (va_wsS RL 159 yL_gradeOf wsL_gradeOf) := goodIn_app (goodIn_of _ (by decide +kernel)) ggL_law_L_gradeOf
set_option maxRecDepth 20000 in
theorem ggL_law_X5_gradeOf : GoodIn wsL_law wsX5_gradeOf := goodIn_r _ [450, 89, 138, 139, 140, 5, 141, 90, 91, 92, 93, 313, 314, 315, 316, 142, 143, 144, 145, 60, 94, 95, 96, 97, 721, 722, 723, 724, 725, 726, 727, 728, 729, 730] (by decide +kernel) (by decide +kernel)
set_option maxRecDepth 20000 in
theorem gL_law_X5_gradeOf : GoodIn wsL_law (wsV RL 161 RX5 yX5_gradeOf wsX5_gradeOf) := goodIn_app (goodIn_of _ (by decide +kernel)) ggL_law_X5_gradeOf
set_option maxRecDepth 20000 in
theorem ggL_law_L_ghostsOf : GoodIn wsL_law wsL_ghostsOf := goodIn_ca (goodIn_r _ [453, 109, 454, 455, 456, 2, 457, 16, 76, 458, 115, 116, 117, 118, 119, 120, 121, 122, 123, 23, 124, 42, 719, 720, 731, 732, 733, 734, 735, 736, 737, 738, 739, 740, 741, 742] (by decide +kernel) (by decide +kernel)) (goodIn_sub (fun _ h => List.mem_append_right _ h) (by decide +kernel))
set_option maxRecDepth 20000 in
theorem gL_law_L_ghostsOf : GoodIn wsL_law (va_wsS RL 162 yL_ghostsOf wsL_ghostsOf) := goodIn_app (goodIn_of _ (by decide +kernel)) ggL_law_L_ghostsOf
set_option maxRecDepth 20000 in
theorem ggL_law_X5_ghostsOf : GoodIn wsL_law wsX5_ghostsOf := goodIn_r _ [462, 424, 425, 426, 5, 427, 89, 138, 139, 140, 141, 90, 91, 92, 93, 142, 143, 144, 145, 60, 94, 95, 96, 97, 721, 722, 723, 724, 725, 726, 727, 728, 729, 730] (by decide +kernel) (by decide +kernel)
set_option maxRecDepth 20000 in
theorem gL_law_X5_ghostsOf : GoodIn wsL_law (wsV RL 164 RX5 yX5_ghostsOf wsX5_ghostsOf) := goodIn_app (goodIn_of _ (by decide +kernel)) ggL_law_X5_ghostsOf
set_option maxRecDepth 20000 in
theorem ggL_law_L_hasCollapsed : GoodIn wsL_law wsL_hasCollapsed := goodIn_ca (goodIn_r _ [465, 109, 466, 467, 468, 2, 469, 16, 76, 115, 116, 117, 118, 119, 120, 121, 122, 123, 23, 124, 42, 155, 156, 157, 158, 36, 159, 719, 720, 731, 732, 733, 734, 735, 736, 737, 738, 739, 740, 741, 742] (by decide +kernel) (by decide +kernel)) (goodIn_sub (fun _ h => List.mem_append_right _ h) (by decide +kernel))
set_option maxRecDepth 20000 in
theorem gL_law_L_hasCollapsed : GoodIn wsL_law (va_wsS RL 165 yL_hasCollapsed wsL_hasCollapsed) := goodIn_app (goodIn_of _ (by decide +kernel)) ggL_law_L_hasCollapsed
set_option maxRecDepth 20000 in
theorem ggL_law_X5_hasCollapsed : GoodIn wsL_law wsX5_hasCollapsed := goodIn_r _ [473, 89, 138, 139, 140, 5, 141, 90, 91, 92, 93, 164, 165, 166, 167, 142, 143, 144, 145, 60, 721, 722, 723, 724, 725, 726, 727, 728, 729, 730] (by decide +kernel) (by decide +kernel)
set_option maxRecDepth 20000 in
theorem gL_law_X5_hasCollapsed : GoodIn wsL_law (wsV RL 167 RX5 yX5_hasCollapsed wsX5_hasCollapsed) := goodIn_app (goodIn_of _ (by decide +kernel)) ggL_law_X5_hasCollapsed
set_option maxRecDepth 20000 in
theorem ggL_law_L_viewOf : GoodIn wsL_law wsL_viewOf := goodIn_ca (goodIn_r _ [476, 109, 477, 478, 479, 2, 480, 16, 76, 201, 115, 116, 117, 118, 119, 120, 121, 122, 123, 23, 124, 42, 365, 233, 234, 235, 236, 237, 238, 481, 248, 249, 250, 36, 38, 251, 252, 253, 254, 37, 719, 720, 731, 732, 733, 734, 735, 736, 737, 738, 739, 740, 741, 742] (by decide +kernel) (by decide +kernel)) (goodIn_sub (fun _ h => List.mem_append_right _ h) (by decide +kernel))
set_option maxRecDepth 20000 in
theorem gL_law_L_viewOf : GoodIn wsL_law (va_wsS RL 168 yL_viewOf wsL_viewOf) := goodIn_app (goodIn_of _ (by decide +kernel)) ggL_law_L_viewOf
set_option maxRecDepth 20000 in
theorem ggL_law_X5_viewOf : GoodIn wsL_law wsX5_viewOf := goodIn_r _ [485, 89, 138, 139, 140, 5, 141, 90, 91, 92, 93, 309, 310, 311, 312, 164, 165, 166, 167, 142, 143, 144, 145, 60, 313, 314, 315, 316, 317, 318, 319, 320, 321, 322, 131, 323, 94, 95, 96, 97, 721, 722, 723, 724, 725, 726, 727, 728, 729, 730] (by decide +kernel) (by decide +kernel)
set_option maxRecDepth 20000 in
theorem gL_law_X5_viewOf : GoodIn wsL_law (wsV RL 170 RX5 yX5_viewOf wsX5_viewOf) := goodIn_app (goodIn_of _ (by decide +kernel)) ggL_law_X5_viewOf
set_option maxRecDepth 20000 in
theorem ggL_law_L_rankOf : GoodIn wsL_law wsL_rankOf := goodIn_ca (goodIn_r _ [488, 109, 489, 490, 491, 2, 492, 16, 76, 493, 115, 116, 117, 118, 119, 120, 121, 122, 123, 23, 124, 42, 494, 495, 496, 15, 497, 24, 29, 232, 233, 234, 235, 236, 237, 238, 239, 240, 241, 242, 40, 41, 36, 243, 244, 245, 246, 39, 247, 248, 249, 250, 38, 251, 252, 253, 254, 37, 255, 256, 257, 258, 719, 720, 731, 732, 733, 734, 735, 736, 737, 738, 739, 740, 741, 742] (by decide +kernel) (by decide +kernel)) (goodIn_sub (fun _ h => List.mem_append_right _ h) (by decide +kernel))
set_option maxRecDepth 20000 in
theorem gL_law_L_rankOf : GoodIn wsL_law (va_wsS RL 171 yL_rankOf wsL_rankOf) := goodIn_app (goodIn_of _ (by decide +kernel)) ggL_law_L_rankOf
set_option maxRecDepth 20000 in
theorem ggL_law_X5_rankOf : GoodIn wsL_law wsX5_rankOf := goodIn_r _ [501, 89, 138, 139, 140, 5, 141, 90, 91, 92, 93, 301, 302, 303, 304, 164, 165, 166, 167, 142, 143, 144, 145, 60, 305, 306, 307, 308, 56, 309, 310, 311, 312, 313, 314, 315, 316, 317, 318, 319, 320, 321, 322, 131, 323, 94, 95, 96, 97, 721, 722, 723, 724, 725, 726, 727, 728, 729, 730] (by decide +kernel) (by decide +kernel)
set_option maxRecDepth 20000 in
theorem gL_law_X5_rankOf : GoodIn wsL_law (wsV RL 173 RX5 yX5_rankOf wsX5_rankOf) := goodIn_app (goodIn_of _ (by decide +kernel)) ggL_law_X5_rankOf
set_option maxRecDepth 20000 in
theorem ggL_law_L_ruinAt : GoodIn wsL_law wsL_ruinAt := goodIn_ca (goodIn_r _ [504, 109, 505, 506, 507, 2, 508, 119, 120, 16, 76, 393, 394, 395, 23, 396, 42, 36, 78, 79, 80, 494, 495, 496, 15, 497, 24, 29, 232, 233, 234, 235, 236, 237, 238, 239, 240, 241, 242, 40, 41, 243, 244, 245, 246, 39, 247, 248, 249, 250, 38, 251, 252, 253, 254, 37, 255, 256, 257, 258, 509, 510, 511, 512, 719, 720, 731, 732, 733, 734, 735, 736, 737, 738, 739, 740, 741, 742] (by decide +kernel) (by decide +kernel)) (goodIn_sub (fun _ h => List.mem_append_right _ h) (by decide +kernel))
set_option maxRecDepth 20000 in
theorem gL_law_L_ruinAt : GoodIn wsL_law (va_wsS RL 174 yL_ruinAt wsL_ruinAt) := goodIn_app (goodIn_of _ (by decide +kernel)) ggL_law_L_ruinAt
set_option maxRecDepth 20000 in
theorem ggL_law_X5_ruinAt : GoodIn wsL_law wsX5_ruinAt := goodIn_r _ [516, 89, 90, 94, 95, 96, 5, 97, 301, 302, 303, 304, 164, 165, 166, 167, 142, 143, 144, 145, 60, 305, 306, 307, 308, 56, 309, 310, 311, 312, 313, 314, 315, 316, 317, 318, 319, 320, 321, 322, 131, 323, 721, 722, 723, 724, 725, 726, 727, 728, 729, 730] (by decide +kernel) (by decide +kernel)
set_option maxRecDepth 20000 in
theorem gL_law_X5_ruinAt : GoodIn wsL_law (wsV RL 176 RX5 yX5_ruinAt wsX5_ruinAt) := goodIn_app (goodIn_of _ (by decide +kernel)) ggL_law_X5_ruinAt
set_option maxRecDepth 20000 in
theorem ggL_law_L_guestsOf : GoodIn wsL_law wsL_guestsOf := goodIn_ca (goodIn_r _ [519, 109, 520, 521, 522, 2, 523, 16, 76, 493, 115, 116, 117, 118, 119, 120, 121, 122, 123, 23, 124, 42, 494, 495, 496, 15, 497, 24, 29, 232, 233, 234, 235, 236, 237, 238, 239, 240, 241, 242, 40, 41, 36, 243, 244, 245, 246, 39, 247, 248, 249, 250, 38, 251, 252, 253, 254, 37, 255, 256, 257, 258, 524, 260, 261, 262, 30, 719, 720, 731, 732, 733, 734, 735, 736, 737, 738, 739, 740, 741, 742] (by decide +kernel) (by decide +kernel)) (goodIn_sub (fun _ h => List.mem_append_right _ h) (by decide +kernel))
set_option maxRecDepth 20000 in
theorem gL_law_L_guestsOf : GoodIn wsL_law (va_wsS RL 177 yL_guestsOf wsL_guestsOf) := goodIn_app (goodIn_of _ (by decide +kernel)) ggL_law_L_guestsOf
set_option maxRecDepth 20000 in
theorem ggL_law_X5_guestsOf : GoodIn wsL_law wsX5_guestsOf := goodIn_r _ [528, 89, 138, 139, 140, 5, 141, 90, 91, 92, 93, 301, 302, 303, 304, 164, 165, 166, 167, 142, 143, 144, 145, 60, 305, 306, 307, 308, 56, 309, 310, 311, 312, 313, 314, 315, 316, 317, 318, 319, 320, 321, 322, 131, 323, 324, 325, 326, 327, 55, 94, 95, 96, 97, 721, 722, 723, 724, 725, 726, 727, 728, 729, 730] (by decide +kernel) (by decide +kernel)
set_option maxRecDepth 20000 in
theorem gL_law_X5_guestsOf : GoodIn wsL_law (wsV RL 179 RX5 yX5_guestsOf wsX5_guestsOf) := goodIn_app (goodIn_of _ (by decide +kernel)) ggL_law_X5_guestsOf
set_option maxRecDepth 20000 in
theorem ggL_law_X4_tickets : GoodIn wsL_law wsX4_tickets := goodIn_r _ [532, 16, 199, 200, 719, 720, 731, 732, 733, 734, 735, 743, 744, 745, 746, 747] (by decide +kernel) (by decide +kernel)
set_option maxRecDepth 20000 in
theorem gL_law_X4_tickets : GoodIn wsL_law (wsV RL 180 RX4 yX4_tickets wsX4_tickets) := goodIn_app (goodIn_of _ (by decide +kernel)) ggL_law_X4_tickets
set_option maxRecDepth 20000 in
theorem ggL_law_X5_tickets : GoodIn wsL_law wsX5_tickets := goodIn_r _ [536, 210, 348, 349, 350, 5, 351, 89, 721, 722, 723, 724, 725, 726, 727, 728, 729, 730] (by decide +kernel) (by decide +kernel)
set_option maxRecDepth 20000 in
theorem gL_law_X5_tickets : GoodIn wsL_law (wsV RL 183 RX5 yX5_tickets wsX5_tickets) := goodIn_app (goodIn_of _ (by decide +kernel)) ggL_law_X5_tickets
set_option maxRecDepth 20000 in
theorem ggL_law_L_dayOf : GoodIn wsL_law wsL_dayOf := goodIn_ca (goodIn_r _ [539, 109, 540, 541, 542, 2, 543, 16, 199, 544, 545, 546, 547, 548, 119, 120, 549, 550, 551, 27, 552, 50, 719, 720, 731, 732, 733, 734, 735, 743, 744, 745, 746, 747] (by decide +kernel) (by decide +kernel)) (goodIn_sub (fun _ h => List.mem_append_right _ h) (by decide +kernel))
set_option maxRecDepth 20000 in
theorem gL_law_L_dayOf : GoodIn wsL_law (va_wsS RL 184 yL_dayOf wsL_dayOf) := goodIn_app (goodIn_of _ (by decide +kernel)) ggL_law_L_dayOf
set_option maxRecDepth 20000 in
theorem ggL_law_X5_dayOf : GoodIn wsL_law wsX5_dayOf := goodIn_r _ [556, 89, 58, 557, 558, 559, 5, 560, 210, 91, 92, 93, 94, 95, 96, 97, 721, 722, 723, 724, 725, 726, 727, 728, 729, 730] (by decide +kernel) (by decide +kernel)
set_option maxRecDepth 20000 in
theorem gL_law_X5_dayOf : GoodIn wsL_law (wsV RL 186 RX5 yX5_dayOf wsX5_dayOf) := goodIn_app (goodIn_of _ (by decide +kernel)) ggL_law_X5_dayOf
set_option maxRecDepth 20000 in
theorem ggL_law_L_isOpen : GoodIn wsL_law wsL_isOpen := goodIn_ca (goodIn_r _ [563, 109, 564, 565, 566, 2, 567, 16, 199, 568, 545, 546, 547, 548, 119, 120, 549, 550, 551, 27, 552, 50, 719, 720, 731, 732, 733, 734, 735, 743, 744, 745, 746, 747] (by decide +kernel) (by decide +kernel)) (goodIn_sub (fun _ h => List.mem_append_right _ h) (by decide +kernel))
set_option maxRecDepth 20000 in
theorem gL_law_L_isOpen : GoodIn wsL_law (va_wsS RL 187 yL_isOpen wsL_isOpen) := goodIn_app (goodIn_of _ (by decide +kernel)) ggL_law_L_isOpen
set_option maxRecDepth 20000 in
theorem ggL_law_X5_isOpen : GoodIn wsL_law wsX5_isOpen := goodIn_r _ [572, 573, 574, 575, 5, 576, 89, 60, 557, 558, 559, 560, 210, 91, 92, 93, 721, 722, 723, 724, 725, 726, 727, 728, 729, 730] (by decide +kernel) (by decide +kernel)
set_option maxRecDepth 20000 in
theorem gL_law_X5_isOpen : GoodIn wsL_law (wsV RL 189 RX5 yX5_isOpen wsX5_isOpen) := goodIn_app (goodIn_of _ (by decide +kernel)) ggL_law_X5_isOpen
set_option maxRecDepth 20000 in
theorem ggL_law_L_isPaidBack : GoodIn wsL_law wsL_isPaidBack := goodIn_ca (goodIn_r _ [579, 109, 580, 581, 582, 2, 583, 16, 199, 568, 545, 546, 547, 548, 119, 120, 549, 550, 551, 27, 552, 50, 719, 720, 731, 732, 733, 734, 735, 743, 744, 745, 746, 747] (by decide +kernel) (by decide +kernel)) (goodIn_sub (fun _ h => List.mem_append_right _ h) (by decide +kernel))
set_option maxRecDepth 20000 in
theorem gL_law_L_isPaidBack : GoodIn wsL_law (va_wsS RL 190 yL_isPaidBack wsL_isPaidBack) := goodIn_app (goodIn_of _ (by decide +kernel)) ggL_law_L_isPaidBack
set_option maxRecDepth 20000 in
theorem ggL_law_X5_isPaidBack : GoodIn wsL_law wsX5_isPaidBack := goodIn_r _ [587, 573, 574, 575, 5, 576, 89, 60, 557, 558, 559, 560, 210, 91, 92, 93, 721, 722, 723, 724, 725, 726, 727, 728, 729, 730] (by decide +kernel) (by decide +kernel)
set_option maxRecDepth 20000 in
theorem gL_law_X5_isPaidBack : GoodIn wsL_law (wsV RL 192 RX5 yX5_isPaidBack wsX5_isPaidBack) := goodIn_app (goodIn_of _ (by decide +kernel)) ggL_law_X5_isPaidBack
set_option maxRecDepth 20000 in
theorem ggL_law_L_viewIn : GoodIn wsL_law wsL_viewIn := goodIn_ca (goodIn_ca (goodIn_r _ [590, 109, 66, 591, 592, 593, 2, 594, 17, 76, 16, 201, 115, 116, 117, 118, 119, 120, 121, 122, 123, 23, 124, 42, 218, 219, 220, 72, 73, 78, 79, 80, 595, 596, 597, 598, 36, 599, 600, 601, 602, 37, 38, 39, 603, 604, 605, 606, 272, 273, 274, 275, 276, 277, 278, 279, 280, 233, 234, 235, 236, 237, 238, 281, 282, 283, 284, 251, 252, 253, 254, 365, 481, 248, 249, 250, 719, 720, 731, 732, 733, 734, 735, 736, 737, 738, 739, 740, 741, 742] (by decide +kernel) (by decide +kernel)) (goodIn_sub (fun _ h => List.mem_append_right _ h) (by decide +kernel))) (goodIn_sub (fun _ h => List.mem_append_left _ (List.mem_append_left _ (List.mem_append_right _ h))) (by decide +kernel))
set_option maxRecDepth 20000 in
theorem gL_law_L_viewIn : GoodIn wsL_law (va_wsS RL 193 yL_viewIn wsL_viewIn) := goodIn_app (goodIn_of _ (by decide +kernel)) ggL_law_L_viewIn
set_option maxRecDepth 20000 in
theorem ggL_law_X5_viewIn : GoodIn wsL_law wsX5_viewIn := goodIn_r _ [610, 89, 138, 139, 140, 5, 141, 90, 91, 92, 93, 94, 95, 96, 97, 611, 612, 613, 614, 60, 61, 615, 600, 601, 602, 289, 290, 291, 292, 293, 294, 295, 296, 297, 298, 299, 300, 56, 301, 302, 303, 304, 164, 165, 166, 167, 142, 143, 144, 145, 305, 306, 307, 308, 309, 310, 311, 312, 313, 314, 315, 316, 317, 318, 319, 320, 321, 322, 131, 323, 324, 325, 326, 327, 55, 328, 329, 330, 331, 210, 58, 57, 59, 332, 333, 334, 335, 98, 99, 100, 101, 336, 337, 338, 339, 616, 617, 618, 619, 721, 722, 723, 724, 725, 726, 727, 728, 729, 730] (by decide +kernel) (by decide +kernel)
set_option maxRecDepth 20000 in
theorem gL_law_X5_viewIn : GoodIn wsL_law (wsV RL 195 RX5 yX5_viewIn wsX5_viewIn) := goodIn_app (goodIn_of _ (by decide +kernel)) ggL_law_X5_viewIn
set_option maxRecDepth 20000 in
theorem ggL_law_L_daysUntilCollapse : GoodIn wsL_law wsL_daysUntilCollapse := goodIn_ca (goodIn_r _ [622, 109, 623, 624, 625, 2, 626, 17, 76, 16, 201, 115, 116, 117, 118, 119, 120, 121, 122, 123, 23, 124, 42, 595, 596, 597, 598, 36, 599, 600, 601, 602, 37, 38, 39, 155, 156, 157, 158, 159, 627, 273, 274, 275, 276, 277, 278, 279, 280, 233, 234, 235, 236, 237, 238, 281, 282, 283, 284, 251, 252, 253, 254, 719, 720, 731, 732, 733, 734, 735, 736, 737, 738, 739, 740, 741, 742] (by decide +kernel) (by decide +kernel)) (goodIn_sub (fun _ h => List.mem_append_right _ h) (by decide +kernel))
set_option maxRecDepth 20000 in
theorem gL_law_L_daysUntilCollapse : GoodIn wsL_law (va_wsS RL 196 yL_daysUntilCollapse wsL_daysUntilCollapse) := goodIn_app (goodIn_of _ (by decide +kernel)) ggL_law_L_daysUntilCollapse
set_option maxRecDepth 20000 in
theorem ggL_law_X5_daysUntilCollapse : GoodIn wsL_law wsX5_daysUntilCollapse := goodIn_r _ [631, 89, 138, 139, 140, 5, 141, 90, 91, 92, 93, 632, 633, 634, 635, 611, 612, 613, 614, 60, 61, 615, 600, 601, 602, 164, 165, 166, 167, 142, 143, 144, 145, 301, 302, 303, 304, 305, 306, 307, 308, 56, 309, 310, 311, 312, 313, 314, 315, 316, 317, 318, 319, 320, 321, 322, 131, 323, 293, 294, 295, 296, 297, 298, 299, 300, 324, 325, 326, 327, 55, 328, 329, 330, 331, 210, 58, 57, 59, 332, 333, 334, 335, 98, 99, 100, 101, 336, 337, 338, 339, 616, 617, 618, 619, 94, 95, 96, 97, 721, 722, 723, 724, 725, 726, 727, 728, 729, 730] (by decide +kernel) (by decide +kernel)
set_option maxRecDepth 20000 in
theorem gL_law_X5_daysUntilCollapse : GoodIn wsL_law (wsV RL 198 RX5 yX5_daysUntilCollapse wsX5_daysUntilCollapse) := goodIn_app (goodIn_of _ (by decide +kernel)) ggL_law_X5_daysUntilCollapse
set_option maxRecDepth 20000 in
theorem ggL_law_L_daysUntilFirst : GoodIn wsL_law wsL_daysUntilFirst := goodIn_ca (goodIn_r _ [638, 109, 639, 640, 641, 2, 642, 17, 76, 16, 201, 115, 116, 117, 118, 119, 120, 121, 122, 123, 23, 124, 42, 595, 596, 597, 598, 36, 599, 600, 601, 602, 37, 38, 39, 365, 233, 234, 235, 236, 237, 238, 643, 644, 645, 646, 243, 244, 245, 246, 247, 248, 249, 250, 251, 252, 253, 254, 647, 269, 270, 271, 272, 273, 274, 275, 276, 277, 278, 279, 280, 281, 282, 283, 284, 719, 720, 731, 732, 733, 734, 735, 736, 737, 738, 739, 740, 741, 742] (by decide +kernel) (by decide +kernel)) (goodIn_sub (fun _ h => List.mem_append_right _ h) (by decide +kernel))
set_option maxRecDepth 20000 in
theorem gL_law_L_daysUntilFirst : GoodIn wsL_law (va_wsS RL 199 yL_daysUntilFirst wsL_daysUntilFirst) := goodIn_app (goodIn_of _ (by decide +kernel)) ggL_law_L_daysUntilFirst
set_option maxRecDepth 20000 in
theorem ggL_law_X5_daysUntilFirst : GoodIn wsL_law wsX5_daysUntilFirst := goodIn_r _ [651, 89, 138, 139, 140, 5, 141, 90, 91, 92, 93, 632, 633, 634, 635, 611, 612, 613, 614, 60, 61, 615, 600, 601, 602, 164, 165, 166, 167, 142, 143, 144, 145, 301, 302, 303, 304, 305, 306, 307, 308, 56, 309, 310, 311, 312, 313, 314, 315, 316, 317, 318, 319, 320, 321, 322, 131, 323, 293, 294, 295, 296, 297, 298, 299, 300, 324, 325, 326, 327, 55, 328, 329, 330, 331, 210, 58, 57, 59, 332, 333, 334, 335, 98, 99, 100, 101, 336, 337, 338, 339, 616, 617, 618, 619, 94, 95, 96, 97, 721, 722, 723, 724, 725, 726, 727, 728, 729, 730] (by decide +kernel) (by decide +kernel)
set_option maxRecDepth 20000 in
theorem gL_law_X5_daysUntilFirst : GoodIn wsL_law (wsV RL 201 RX5 yX5_daysUntilFirst wsX5_daysUntilFirst) := goodIn_app (goodIn_of _ (by decide +kernel)) ggL_law_X5_daysUntilFirst
set_option maxRecDepth 20000 in
theorem ggL_law_L_bestCut : GoodIn wsL_law wsL_bestCut := goodIn_ca (goodIn_r _ [654, 109, 655, 656, 657, 2, 658, 16, 201, 17, 76, 153, 115, 116, 117, 118, 119, 120, 121, 122, 123, 23, 124, 42, 365, 233, 234, 235, 236, 237, 238, 595, 596, 597, 598, 36, 599, 600, 601, 602, 37, 38, 39, 125, 126, 127, 128, 129, 130, 131, 132, 603, 604, 605, 606, 272, 273, 274, 275, 276, 277, 278, 279, 280, 281, 282, 283, 284, 251, 252, 253, 254, 481, 248, 249, 250, 719, 720, 731, 732, 733, 734, 735, 736, 737, 738, 739, 740, 741, 742] (by decide +kernel) (by decide +kernel)) (goodIn_sub (fun _ h => List.mem_append_right _ h) (by decide +kernel))
set_option maxRecDepth 20000 in
theorem gL_law_L_bestCut : GoodIn wsL_law (va_wsS RL 202 yL_bestCut wsL_bestCut) := goodIn_app (goodIn_of _ (by decide +kernel)) ggL_law_L_bestCut
set_option maxRecDepth 20000 in
theorem ggL_law_X5_bestCut : GoodIn wsL_law wsX5_bestCut := goodIn_r _ [662, 89, 137, 130, 131, 132, 138, 139, 140, 5, 141, 90, 91, 92, 93, 94, 95, 96, 97, 611, 612, 613, 614, 60, 61, 615, 600, 601, 602, 142, 143, 144, 145, 98, 99, 100, 101, 289, 290, 291, 292, 293, 294, 295, 296, 297, 298, 299, 300, 56, 301, 302, 303, 304, 164, 165, 166, 167, 305, 306, 307, 308, 309, 310, 311, 312, 313, 314, 315, 316, 317, 318, 319, 320, 321, 322, 323, 324, 325, 326, 327, 55, 328, 329, 330, 331, 210, 58, 57, 59, 332, 333, 334, 335, 336, 337, 338, 339, 616, 617, 618, 619, 721, 722, 723, 724, 725, 726, 727, 728, 729, 730] (by decide +kernel) (by decide +kernel)
set_option maxRecDepth 20000 in
theorem gL_law_X5_bestCut : GoodIn wsL_law (wsV RL 204 RX5 yX5_bestCut wsX5_bestCut) := goodIn_app (goodIn_of _ (by decide +kernel)) ggL_law_X5_bestCut
set_option maxRecDepth 20000 in
theorem ggL_law_L_purseIn : GoodIn wsL_law wsL_purseIn := goodIn_ca (goodIn_r _ [665, 66, 666, 667, 668, 2, 669, 17, 16, 154, 218, 219, 220, 72, 73, 78, 79, 80, 670, 671, 672, 15, 673, 24, 28, 29, 30, 31, 674, 596, 597, 23, 598, 36, 599, 600, 601, 602, 37, 38, 39, 42, 675, 676, 677, 27, 678, 46, 679, 47, 48, 49, 50, 221, 222, 223, 224, 225, 226, 227, 228, 229, 230, 231, 232, 233, 234, 235, 236, 237, 238, 239, 240, 241, 242, 40, 41, 243, 244, 245, 246, 247, 248, 249, 250, 251, 252, 253, 254, 255, 256, 257, 258, 259, 260, 261, 262, 263, 264, 265, 266, 267, 156, 157, 158, 159, 122, 123, 124, 268, 269, 270, 271, 272, 273, 274, 275, 276, 277, 278, 279, 280, 281, 282, 283, 284, 719, 720, 731, 732, 733, 734, 735, 736, 737, 738, 739, 740, 741, 742, 743, 744, 745, 746, 747] (by decide +kernel) (by decide +kernel)) (goodIn_sub (fun _ h => List.mem_append_left _ (List.mem_append_left _ (List.mem_append_right _ h))) (by decide +kernel))
set_option maxRecDepth 20000 in
theorem gL_law_L_purseIn : GoodIn wsL_law (va_wsS RL 205 yL_purseIn wsL_purseIn) := goodIn_app (goodIn_of _ (by decide +kernel)) ggL_law_L_purseIn
set_option maxRecDepth 20000 in
theorem ggL_law_X5_purseIn : GoodIn wsL_law wsX5_purseIn := goodIn_r _ [683, 89, 60, 91, 92, 5, 93, 94, 95, 96, 97, 611, 612, 613, 614, 61, 615, 600, 601, 602, 289, 290, 291, 292, 293, 294, 295, 296, 90, 297, 298, 299, 300, 56, 301, 302, 303, 304, 164, 165, 166, 167, 142, 143, 144, 145, 305, 306, 307, 308, 309, 310, 311, 312, 313, 314, 315, 316, 317, 318, 319, 320, 321, 322, 131, 323, 324, 325, 326, 327, 55, 328, 329, 330, 331, 210, 58, 57, 59, 332, 333, 334, 335, 98, 99, 100, 101, 336, 337, 338, 339, 616, 617, 618, 619, 721, 722, 723, 724, 725, 726, 727, 728, 729, 730] (by decide +kernel) (by decide +kernel)
set_option maxRecDepth 20000 in
theorem gL_law_X5_purseIn : GoodIn wsL_law (wsV RL 207 RX5 yX5_purseIn wsX5_purseIn) := goodIn_app (goodIn_of _ (by decide +kernel)) ggL_law_X5_purseIn
set_option maxRecDepth 20000 in
theorem ggL_law_X4_meanView : GoodIn wsL_law wsX4_meanView := goodIn_r _ [687, 16, 76, 201, 393, 394, 395, 23, 396, 42, 36, 365, 233, 234, 235, 236, 237, 238, 688, 689, 690, 691, 247, 248, 249, 250, 38, 251, 252, 253, 254, 37, 719, 720, 731, 732, 733, 734, 735, 736, 737, 738, 739, 740, 741, 742] (by decide +kernel) (by decide +kernel)
set_option maxRecDepth 20000 in
theorem gL_law_X4_meanView : GoodIn wsL_law (wsV RL 208 RX4 yX4_meanView wsX4_meanView) := goodIn_app (goodIn_of _ (by decide +kernel)) ggL_law_X4_meanView
set_option maxRecDepth 20000 in
theorem ggL_law_X5_meanView : GoodIn wsL_law wsX5_meanView := goodIn_r _ [695, 89, 90, 309, 310, 311, 5, 312, 164, 165, 166, 167, 142, 143, 144, 145, 60, 313, 314, 315, 316, 317, 318, 319, 320, 321, 322, 131, 323, 401, 402, 403, 404, 721, 722, 723, 724, 725, 726, 727, 728, 729, 730] (by decide +kernel) (by decide +kernel)
set_option maxRecDepth 20000 in
theorem gL_law_X5_meanView : GoodIn wsL_law (wsV RL 212 RX5 yX5_meanView wsX5_meanView) := goodIn_app (goodIn_of _ (by decide +kernel)) ggL_law_X5_meanView
set_option maxRecDepth 20000 in
theorem ggL_law_X4_digest : GoodIn wsL_law wsX4_digest := goodIn_r _ [699, 700, 16, 201, 76, 77, 154, 199, 200, 701, 702, 2, 703, 704, 365, 233, 234, 235, 236, 237, 238, 393, 394, 395, 23, 396, 42, 36, 705, 706, 707, 708, 153, 114, 458, 175, 493, 494, 495, 496, 15, 497, 24, 29, 232, 239, 240, 241, 242, 40, 41, 243, 244, 245, 246, 39, 247, 248, 249, 250, 38, 251, 252, 253, 254, 37, 255, 256, 257, 258, 481, 524, 260, 261, 262, 30, 709, 710, 711, 712, 544, 568, 719, 720, 731, 732, 733, 734, 735, 736, 737, 738, 739, 740, 741, 742, 743, 744, 745, 746, 747] (by decide +kernel) (by decide +kernel)
set_option maxRecDepth 20000 in
theorem gL_law_X4_digest : GoodIn wsL_law (wsV RL 213 RX4 yX4_digest wsX4_digest) := goodIn_app (goodIn_of _ (by decide +kernel)) ggL_law_X4_digest
set_option maxRecDepth 20000 in
theorem ggL_law_X5_digest : GoodIn wsL_law wsX5_digest := goodIn_r _ [716, 89, 35, 60, 90, 210, 717, 718, 56, 58, 317, 318, 319, 5, 320, 321, 322, 131, 323, 401, 402, 403, 404, 164, 165, 166, 167, 142, 143, 144, 145, 309, 310, 311, 312, 313, 314, 315, 316, 301, 302, 303, 304, 305, 306, 307, 308, 324, 325, 326, 327, 55, 721, 722, 723, 724, 725, 726, 727, 728, 729, 730] (by decide +kernel) (by decide +kernel)
set_option maxRecDepth 20000 in
theorem gL_law_X5_digest : GoodIn wsL_law (wsV RL 217 RX5 yX5_digest wsX5_digest) := goodIn_app (goodIn_of _ (by decide +kernel)) ggL_law_X5_digest
theorem dL_law_0 : decode cL_law 0 = .ok (.new 8, 3) := by decide +kernel
theorem dL_law_3 : decode cL_law 3 = .ok (.dup, 1) := by decide +kernel
theorem dL_law_4 : decode cL_law 4 = .ok (.invokespecial 91, 3) := by decide +kernel
theorem dL_law_7 : decode cL_law 7 = .ok (.astore_n 1, 1) := by decide +kernel
theorem dL_law_8 : decode cL_law 8 = .ok (.new 92, 3) := by decide +kernel
theorem dL_law_11 : decode cL_law 11 = .ok (.dup, 1) := by decide +kernel
theorem dL_law_12 : decode cL_law 12 = .ok (.invokespecial 94, 3) := by decide +kernel
theorem dL_law_15 : decode cL_law 15 = .ok (.astore_n 2, 1) := by decide +kernel
theorem dL_law_16 : decode cL_law 16 = .ok (.iconst 1, 1) := by decide +kernel
theorem dL_law_17 : decode cL_law 17 = .ok (.newarray .long, 2) := by decide +kernel
theorem dL_law_19 : decode cL_law 19 = .ok (.astore_n 3, 1) := by decide +kernel
theorem dL_law_20 : decode cL_law 20 = .ok (.iconst 0, 1) := by decide +kernel
theorem dL_law_21 : decode cL_law 21 = .ok (.istore 4, 2) := by decide +kernel
theorem dL_law_23 : decode cL_law 23 = .ok (.iload 4, 2) := by decide +kernel
theorem dL_law_25 : decode cL_law 25 = .ok (.aload_n 0, 1) := by decide +kernel
theorem dL_law_26 : decode cL_law 26 = .ok (.arraylength, 1) := by decide +kernel
theorem dL_law_27 : decode cL_law 27 = .ok (.iconst 5, 1) := by decide +kernel
theorem dL_law_28 : decode cL_law 28 = .ok (.isub, 1) := by decide +kernel
theorem dL_law_29 : decode cL_law 29 = .ok (.if_icmp .gt 1773, 3) := by decide +kernel
theorem dL_law_32 : decode cL_law 32 = .ok (.aload_n 0, 1) := by decide +kernel
theorem dL_law_33 : decode cL_law 33 = .ok (.iload 4, 2) := by decide +kernel
theorem dL_law_35 : decode cL_law 35 = .ok (.iaload, 1) := by decide +kernel
theorem dL_law_36 : decode cL_law 36 = .ok (.bipush 63, 2) := by decide +kernel
theorem dL_law_38 : decode cL_law 38 = .ok (.iand, 1) := by decide +kernel
theorem dL_law_39 : decode cL_law 39 = .ok (.tableswitch 1757 0 33 #[149, 241, 309, 365, 433, 489, 557, 613, 626, 639, 652, 665, 678, 691, 704, 760, 816, 872, 928, 991, 1047, 1103, 1159, 1215, 1228, 1284, 1347, 1410, 1478, 1534, 1590, 1646, 1702, 1743], 149) := by decide +kernel
theorem dL_law_188 : decode cL_law 188 = .ok (.aload_n 1, 1) := by decide +kernel
theorem dL_law_189 : decode cL_law 189 = .ok (.aload_n 0, 1) := by decide +kernel
theorem dL_law_190 : decode cL_law 190 = .ok (.iload 4, 2) := by decide +kernel
theorem dL_law_192 : decode cL_law 192 = .ok (.iconst 1, 1) := by decide +kernel
theorem dL_law_193 : decode cL_law 193 = .ok (.iadd, 1) := by decide +kernel
theorem dL_law_194 : decode cL_law 194 = .ok (.iaload, 1) := by decide +kernel
theorem dL_law_195 : decode cL_law 195 = .ok (.aload_n 0, 1) := by decide +kernel
theorem dL_law_196 : decode cL_law 196 = .ok (.iload 4, 2) := by decide +kernel
theorem dL_law_198 : decode cL_law 198 = .ok (.iconst 2, 1) := by decide +kernel
theorem dL_law_199 : decode cL_law 199 = .ok (.iadd, 1) := by decide +kernel
theorem dL_law_200 : decode cL_law 200 = .ok (.iaload, 1) := by decide +kernel
theorem dL_law_201 : decode cL_law 201 = .ok (.aload_n 0, 1) := by decide +kernel
theorem dL_law_202 : decode cL_law 202 = .ok (.iload 4, 2) := by decide +kernel
theorem dL_law_204 : decode cL_law 204 = .ok (.iconst 3, 1) := by decide +kernel
theorem dL_law_205 : decode cL_law 205 = .ok (.iadd, 1) := by decide +kernel
theorem dL_law_206 : decode cL_law 206 = .ok (.iaload, 1) := by decide +kernel
theorem dL_law_207 : decode cL_law 207 = .ok (.aload_n 0, 1) := by decide +kernel
theorem dL_law_208 : decode cL_law 208 = .ok (.iload 4, 2) := by decide +kernel
theorem dL_law_210 : decode cL_law 210 = .ok (.iconst 4, 1) := by decide +kernel
theorem dL_law_211 : decode cL_law 211 = .ok (.iadd, 1) := by decide +kernel
theorem dL_law_212 : decode cL_law 212 = .ok (.iaload, 1) := by decide +kernel
theorem dL_law_213 : decode cL_law 213 = .ok (.aload_n 3, 1) := by decide +kernel
theorem dL_law_214 : decode cL_law 214 = .ok (.invokestatic 95, 3) := by decide +kernel
theorem dL_law_217 : decode cL_law 217 = .ok (.istore 5, 2) := by decide +kernel
theorem dL_law_219 : decode cL_law 219 = .ok (.aload_n 2, 1) := by decide +kernel
theorem dL_law_220 : decode cL_law 220 = .ok (.aload_n 0, 1) := by decide +kernel
theorem dL_law_221 : decode cL_law 221 = .ok (.iload 4, 2) := by decide +kernel
theorem dL_law_223 : decode cL_law 223 = .ok (.iconst 1, 1) := by decide +kernel
theorem dL_law_224 : decode cL_law 224 = .ok (.iadd, 1) := by decide +kernel
theorem dL_law_225 : decode cL_law 225 = .ok (.iaload, 1) := by decide +kernel
theorem dL_law_226 : decode cL_law 226 = .ok (.aload_n 0, 1) := by decide +kernel
theorem dL_law_227 : decode cL_law 227 = .ok (.iload 4, 2) := by decide +kernel
theorem dL_law_229 : decode cL_law 229 = .ok (.iconst 2, 1) := by decide +kernel
theorem dL_law_230 : decode cL_law 230 = .ok (.iadd, 1) := by decide +kernel
theorem dL_law_231 : decode cL_law 231 = .ok (.iaload, 1) := by decide +kernel
theorem dL_law_232 : decode cL_law 232 = .ok (.aload_n 0, 1) := by decide +kernel
theorem dL_law_233 : decode cL_law 233 = .ok (.iload 4, 2) := by decide +kernel
theorem dL_law_235 : decode cL_law 235 = .ok (.iconst 3, 1) := by decide +kernel
theorem dL_law_236 : decode cL_law 236 = .ok (.iadd, 1) := by decide +kernel
theorem dL_law_237 : decode cL_law 237 = .ok (.iaload, 1) := by decide +kernel
theorem dL_law_238 : decode cL_law 238 = .ok (.aload_n 0, 1) := by decide +kernel
theorem dL_law_239 : decode cL_law 239 = .ok (.iload 4, 2) := by decide +kernel
theorem dL_law_241 : decode cL_law 241 = .ok (.iconst 4, 1) := by decide +kernel
theorem dL_law_242 : decode cL_law 242 = .ok (.iadd, 1) := by decide +kernel
theorem dL_law_243 : decode cL_law 243 = .ok (.iaload, 1) := by decide +kernel
theorem dL_law_244 : decode cL_law 244 = .ok (.invokevirtual 100, 3) := by decide +kernel
theorem dL_law_247 : decode cL_law 247 = .ok (.istore 6, 2) := by decide +kernel
theorem dL_law_249 : decode cL_law 249 = .ok (.aload_n 2, 1) := by decide +kernel
theorem dL_law_250 : decode cL_law 250 = .ok (.invokevirtual 101, 3) := by decide +kernel
theorem dL_law_253 : decode cL_law 253 = .ok (.iload 5, 2) := by decide +kernel
theorem dL_law_255 : decode cL_law 255 = .ok (.if_icmp .eq 5, 3) := by decide +kernel
theorem dL_law_258 : decode cL_law 258 = .ok (.iconst 0, 1) := by decide +kernel
theorem dL_law_259 : decode cL_law 259 = .ok (.ireturn, 1) := by decide +kernel
theorem dL_law_260 : decode cL_law 260 = .ok (.iload 5, 2) := by decide +kernel
theorem dL_law_262 : decode cL_law 262 = .ok (.ifCond .ne 15, 3) := by decide +kernel
theorem dL_law_265 : decode cL_law 265 = .ok (.aload_n 3, 1) := by decide +kernel
theorem dL_law_266 : decode cL_law 266 = .ok (.iconst 0, 1) := by decide +kernel
theorem dL_law_267 : decode cL_law 267 = .ok (.laload, 1) := by decide +kernel
theorem dL_law_268 : decode cL_law 268 = .ok (.iload 6, 2) := by decide +kernel
theorem dL_law_270 : decode cL_law 270 = .ok (.i2l, 1) := by decide +kernel
theorem dL_law_271 : decode cL_law 271 = .ok (.lcmp, 1) := by decide +kernel
theorem dL_law_272 : decode cL_law 272 = .ok (.ifCond .eq 5, 3) := by decide +kernel
theorem dL_law_275 : decode cL_law 275 = .ok (.iconst 0, 1) := by decide +kernel
theorem dL_law_276 : decode cL_law 276 = .ok (.ireturn, 1) := by decide +kernel
theorem dL_law_277 : decode cL_law 277 = .ok (.goto 1519, 3) := by decide +kernel
theorem dL_law_280 : decode cL_law 280 = .ok (.aload_n 1, 1) := by decide +kernel
theorem dL_law_281 : decode cL_law 281 = .ok (.aload_n 0, 1) := by decide +kernel
theorem dL_law_282 : decode cL_law 282 = .ok (.iload 4, 2) := by decide +kernel
theorem dL_law_284 : decode cL_law 284 = .ok (.iconst 1, 1) := by decide +kernel
theorem dL_law_285 : decode cL_law 285 = .ok (.iadd, 1) := by decide +kernel
theorem dL_law_286 : decode cL_law 286 = .ok (.iaload, 1) := by decide +kernel
theorem dL_law_287 : decode cL_law 287 = .ok (.aload_n 0, 1) := by decide +kernel
theorem dL_law_288 : decode cL_law 288 = .ok (.iload 4, 2) := by decide +kernel
theorem dL_law_290 : decode cL_law 290 = .ok (.iconst 2, 1) := by decide +kernel
theorem dL_law_291 : decode cL_law 291 = .ok (.iadd, 1) := by decide +kernel
theorem dL_law_292 : decode cL_law 292 = .ok (.iaload, 1) := by decide +kernel
theorem dL_law_293 : decode cL_law 293 = .ok (.aload_n 3, 1) := by decide +kernel
theorem dL_law_294 : decode cL_law 294 = .ok (.invokestatic 105, 3) := by decide +kernel
theorem dL_law_297 : decode cL_law 297 = .ok (.istore 5, 2) := by decide +kernel
theorem dL_law_299 : decode cL_law 299 = .ok (.aload_n 2, 1) := by decide +kernel
theorem dL_law_300 : decode cL_law 300 = .ok (.aload_n 0, 1) := by decide +kernel
theorem dL_law_301 : decode cL_law 301 = .ok (.iload 4, 2) := by decide +kernel
theorem dL_law_303 : decode cL_law 303 = .ok (.iconst 1, 1) := by decide +kernel
theorem dL_law_304 : decode cL_law 304 = .ok (.iadd, 1) := by decide +kernel
theorem dL_law_305 : decode cL_law 305 = .ok (.iaload, 1) := by decide +kernel
theorem dL_law_306 : decode cL_law 306 = .ok (.aload_n 0, 1) := by decide +kernel
theorem dL_law_307 : decode cL_law 307 = .ok (.iload 4, 2) := by decide +kernel
theorem dL_law_309 : decode cL_law 309 = .ok (.iconst 2, 1) := by decide +kernel
theorem dL_law_310 : decode cL_law 310 = .ok (.iadd, 1) := by decide +kernel
theorem dL_law_311 : decode cL_law 311 = .ok (.iaload, 1) := by decide +kernel
theorem dL_law_312 : decode cL_law 312 = .ok (.invokevirtual 108, 3) := by decide +kernel
theorem dL_law_315 : decode cL_law 315 = .ok (.istore 6, 2) := by decide +kernel
theorem dL_law_317 : decode cL_law 317 = .ok (.aload_n 2, 1) := by decide +kernel
theorem dL_law_318 : decode cL_law 318 = .ok (.invokevirtual 101, 3) := by decide +kernel
theorem dL_law_321 : decode cL_law 321 = .ok (.iload 5, 2) := by decide +kernel
theorem dL_law_323 : decode cL_law 323 = .ok (.if_icmp .eq 5, 3) := by decide +kernel
theorem dL_law_326 : decode cL_law 326 = .ok (.iconst 0, 1) := by decide +kernel
theorem dL_law_327 : decode cL_law 327 = .ok (.ireturn, 1) := by decide +kernel
theorem dL_law_328 : decode cL_law 328 = .ok (.iload 5, 2) := by decide +kernel
theorem dL_law_330 : decode cL_law 330 = .ok (.ifCond .ne 15, 3) := by decide +kernel
theorem dL_law_333 : decode cL_law 333 = .ok (.aload_n 3, 1) := by decide +kernel
theorem dL_law_334 : decode cL_law 334 = .ok (.iconst 0, 1) := by decide +kernel
theorem dL_law_335 : decode cL_law 335 = .ok (.laload, 1) := by decide +kernel
theorem dL_law_336 : decode cL_law 336 = .ok (.iload 6, 2) := by decide +kernel
theorem dL_law_338 : decode cL_law 338 = .ok (.i2l, 1) := by decide +kernel
theorem dL_law_339 : decode cL_law 339 = .ok (.lcmp, 1) := by decide +kernel
theorem dL_law_340 : decode cL_law 340 = .ok (.ifCond .eq 5, 3) := by decide +kernel
theorem dL_law_343 : decode cL_law 343 = .ok (.iconst 0, 1) := by decide +kernel
theorem dL_law_344 : decode cL_law 344 = .ok (.ireturn, 1) := by decide +kernel
theorem dL_law_345 : decode cL_law 345 = .ok (.goto 1451, 3) := by decide +kernel
theorem dL_law_348 : decode cL_law 348 = .ok (.aload_n 1, 1) := by decide +kernel
theorem dL_law_349 : decode cL_law 349 = .ok (.aload_n 0, 1) := by decide +kernel
theorem dL_law_350 : decode cL_law 350 = .ok (.iload 4, 2) := by decide +kernel
theorem dL_law_352 : decode cL_law 352 = .ok (.iconst 1, 1) := by decide +kernel
theorem dL_law_353 : decode cL_law 353 = .ok (.iadd, 1) := by decide +kernel
theorem dL_law_354 : decode cL_law 354 = .ok (.iaload, 1) := by decide +kernel
theorem dL_law_355 : decode cL_law 355 = .ok (.aload_n 3, 1) := by decide +kernel
theorem dL_law_356 : decode cL_law 356 = .ok (.invokestatic 109, 3) := by decide +kernel
theorem dL_law_359 : decode cL_law 359 = .ok (.istore 5, 2) := by decide +kernel
theorem dL_law_361 : decode cL_law 361 = .ok (.aload_n 2, 1) := by decide +kernel
theorem dL_law_362 : decode cL_law 362 = .ok (.aload_n 0, 1) := by decide +kernel
theorem dL_law_363 : decode cL_law 363 = .ok (.iload 4, 2) := by decide +kernel
theorem dL_law_365 : decode cL_law 365 = .ok (.iconst 1, 1) := by decide +kernel
theorem dL_law_366 : decode cL_law 366 = .ok (.iadd, 1) := by decide +kernel
theorem dL_law_367 : decode cL_law 367 = .ok (.iaload, 1) := by decide +kernel
theorem dL_law_368 : decode cL_law 368 = .ok (.invokevirtual 112, 3) := by decide +kernel
theorem dL_law_371 : decode cL_law 371 = .ok (.istore 6, 2) := by decide +kernel
theorem dL_law_373 : decode cL_law 373 = .ok (.aload_n 2, 1) := by decide +kernel
theorem dL_law_374 : decode cL_law 374 = .ok (.invokevirtual 101, 3) := by decide +kernel
theorem dL_law_377 : decode cL_law 377 = .ok (.iload 5, 2) := by decide +kernel
theorem dL_law_379 : decode cL_law 379 = .ok (.if_icmp .eq 5, 3) := by decide +kernel
theorem dL_law_382 : decode cL_law 382 = .ok (.iconst 0, 1) := by decide +kernel
theorem dL_law_383 : decode cL_law 383 = .ok (.ireturn, 1) := by decide +kernel
theorem dL_law_384 : decode cL_law 384 = .ok (.iload 5, 2) := by decide +kernel
theorem dL_law_386 : decode cL_law 386 = .ok (.ifCond .ne 15, 3) := by decide +kernel
theorem dL_law_389 : decode cL_law 389 = .ok (.aload_n 3, 1) := by decide +kernel
theorem dL_law_390 : decode cL_law 390 = .ok (.iconst 0, 1) := by decide +kernel
theorem dL_law_391 : decode cL_law 391 = .ok (.laload, 1) := by decide +kernel
theorem dL_law_392 : decode cL_law 392 = .ok (.iload 6, 2) := by decide +kernel
theorem dL_law_394 : decode cL_law 394 = .ok (.i2l, 1) := by decide +kernel
theorem dL_law_395 : decode cL_law 395 = .ok (.lcmp, 1) := by decide +kernel
theorem dL_law_396 : decode cL_law 396 = .ok (.ifCond .eq 5, 3) := by decide +kernel
theorem dL_law_399 : decode cL_law 399 = .ok (.iconst 0, 1) := by decide +kernel
theorem dL_law_400 : decode cL_law 400 = .ok (.ireturn, 1) := by decide +kernel
theorem dL_law_401 : decode cL_law 401 = .ok (.goto 1395, 3) := by decide +kernel
theorem dL_law_404 : decode cL_law 404 = .ok (.aload_n 1, 1) := by decide +kernel
theorem dL_law_405 : decode cL_law 405 = .ok (.aload_n 0, 1) := by decide +kernel
theorem dL_law_406 : decode cL_law 406 = .ok (.iload 4, 2) := by decide +kernel
theorem dL_law_408 : decode cL_law 408 = .ok (.iconst 1, 1) := by decide +kernel
theorem dL_law_409 : decode cL_law 409 = .ok (.iadd, 1) := by decide +kernel
theorem dL_law_410 : decode cL_law 410 = .ok (.iaload, 1) := by decide +kernel
theorem dL_law_411 : decode cL_law 411 = .ok (.aload_n 0, 1) := by decide +kernel
theorem dL_law_412 : decode cL_law 412 = .ok (.iload 4, 2) := by decide +kernel
theorem dL_law_414 : decode cL_law 414 = .ok (.iconst 2, 1) := by decide +kernel
theorem dL_law_415 : decode cL_law 415 = .ok (.iadd, 1) := by decide +kernel
theorem dL_law_416 : decode cL_law 416 = .ok (.iaload, 1) := by decide +kernel
theorem dL_law_417 : decode cL_law 417 = .ok (.aload_n 3, 1) := by decide +kernel
theorem dL_law_418 : decode cL_law 418 = .ok (.invokestatic 113, 3) := by decide +kernel
theorem dL_law_421 : decode cL_law 421 = .ok (.istore 5, 2) := by decide +kernel
theorem dL_law_423 : decode cL_law 423 = .ok (.aload_n 2, 1) := by decide +kernel
theorem dL_law_424 : decode cL_law 424 = .ok (.aload_n 0, 1) := by decide +kernel
theorem dL_law_425 : decode cL_law 425 = .ok (.iload 4, 2) := by decide +kernel
theorem dL_law_427 : decode cL_law 427 = .ok (.iconst 1, 1) := by decide +kernel
theorem dL_law_428 : decode cL_law 428 = .ok (.iadd, 1) := by decide +kernel
theorem dL_law_429 : decode cL_law 429 = .ok (.iaload, 1) := by decide +kernel
theorem dL_law_430 : decode cL_law 430 = .ok (.aload_n 0, 1) := by decide +kernel
theorem dL_law_431 : decode cL_law 431 = .ok (.iload 4, 2) := by decide +kernel
theorem dL_law_433 : decode cL_law 433 = .ok (.iconst 2, 1) := by decide +kernel
theorem dL_law_434 : decode cL_law 434 = .ok (.iadd, 1) := by decide +kernel
theorem dL_law_435 : decode cL_law 435 = .ok (.iaload, 1) := by decide +kernel
theorem dL_law_436 : decode cL_law 436 = .ok (.invokevirtual 115, 3) := by decide +kernel
theorem dL_law_439 : decode cL_law 439 = .ok (.istore 6, 2) := by decide +kernel
theorem dL_law_441 : decode cL_law 441 = .ok (.aload_n 2, 1) := by decide +kernel
theorem dL_law_442 : decode cL_law 442 = .ok (.invokevirtual 101, 3) := by decide +kernel
theorem dL_law_445 : decode cL_law 445 = .ok (.iload 5, 2) := by decide +kernel
theorem dL_law_447 : decode cL_law 447 = .ok (.if_icmp .eq 5, 3) := by decide +kernel
theorem dL_law_450 : decode cL_law 450 = .ok (.iconst 0, 1) := by decide +kernel
theorem dL_law_451 : decode cL_law 451 = .ok (.ireturn, 1) := by decide +kernel
theorem dL_law_452 : decode cL_law 452 = .ok (.iload 5, 2) := by decide +kernel
theorem dL_law_454 : decode cL_law 454 = .ok (.ifCond .ne 15, 3) := by decide +kernel
theorem dL_law_457 : decode cL_law 457 = .ok (.aload_n 3, 1) := by decide +kernel
theorem dL_law_458 : decode cL_law 458 = .ok (.iconst 0, 1) := by decide +kernel
theorem dL_law_459 : decode cL_law 459 = .ok (.laload, 1) := by decide +kernel
theorem dL_law_460 : decode cL_law 460 = .ok (.iload 6, 2) := by decide +kernel
theorem dL_law_462 : decode cL_law 462 = .ok (.i2l, 1) := by decide +kernel
theorem dL_law_463 : decode cL_law 463 = .ok (.lcmp, 1) := by decide +kernel
theorem dL_law_464 : decode cL_law 464 = .ok (.ifCond .eq 5, 3) := by decide +kernel
theorem dL_law_467 : decode cL_law 467 = .ok (.iconst 0, 1) := by decide +kernel
theorem dL_law_468 : decode cL_law 468 = .ok (.ireturn, 1) := by decide +kernel
theorem dL_law_469 : decode cL_law 469 = .ok (.goto 1327, 3) := by decide +kernel
theorem dL_law_472 : decode cL_law 472 = .ok (.aload_n 1, 1) := by decide +kernel
theorem dL_law_473 : decode cL_law 473 = .ok (.aload_n 0, 1) := by decide +kernel
theorem dL_law_474 : decode cL_law 474 = .ok (.iload 4, 2) := by decide +kernel
theorem dL_law_476 : decode cL_law 476 = .ok (.iconst 1, 1) := by decide +kernel
theorem dL_law_477 : decode cL_law 477 = .ok (.iadd, 1) := by decide +kernel
theorem dL_law_478 : decode cL_law 478 = .ok (.iaload, 1) := by decide +kernel
theorem dL_law_479 : decode cL_law 479 = .ok (.aload_n 3, 1) := by decide +kernel
theorem dL_law_480 : decode cL_law 480 = .ok (.invokestatic 116, 3) := by decide +kernel
theorem dL_law_483 : decode cL_law 483 = .ok (.istore 5, 2) := by decide +kernel
theorem dL_law_485 : decode cL_law 485 = .ok (.aload_n 2, 1) := by decide +kernel
theorem dL_law_486 : decode cL_law 486 = .ok (.aload_n 0, 1) := by decide +kernel
theorem dL_law_487 : decode cL_law 487 = .ok (.iload 4, 2) := by decide +kernel
theorem dL_law_489 : decode cL_law 489 = .ok (.iconst 1, 1) := by decide +kernel
theorem dL_law_490 : decode cL_law 490 = .ok (.iadd, 1) := by decide +kernel
theorem dL_law_491 : decode cL_law 491 = .ok (.iaload, 1) := by decide +kernel
theorem dL_law_492 : decode cL_law 492 = .ok (.invokevirtual 118, 3) := by decide +kernel
theorem dL_law_495 : decode cL_law 495 = .ok (.istore 6, 2) := by decide +kernel
theorem dL_law_497 : decode cL_law 497 = .ok (.aload_n 2, 1) := by decide +kernel
theorem dL_law_498 : decode cL_law 498 = .ok (.invokevirtual 101, 3) := by decide +kernel
theorem dL_law_501 : decode cL_law 501 = .ok (.iload 5, 2) := by decide +kernel
theorem dL_law_503 : decode cL_law 503 = .ok (.if_icmp .eq 5, 3) := by decide +kernel
theorem dL_law_506 : decode cL_law 506 = .ok (.iconst 0, 1) := by decide +kernel
theorem dL_law_507 : decode cL_law 507 = .ok (.ireturn, 1) := by decide +kernel
theorem dL_law_508 : decode cL_law 508 = .ok (.iload 5, 2) := by decide +kernel
theorem dL_law_510 : decode cL_law 510 = .ok (.ifCond .ne 15, 3) := by decide +kernel
theorem dL_law_513 : decode cL_law 513 = .ok (.aload_n 3, 1) := by decide +kernel
theorem dL_law_514 : decode cL_law 514 = .ok (.iconst 0, 1) := by decide +kernel
theorem dL_law_515 : decode cL_law 515 = .ok (.laload, 1) := by decide +kernel
theorem dL_law_516 : decode cL_law 516 = .ok (.iload 6, 2) := by decide +kernel
theorem dL_law_518 : decode cL_law 518 = .ok (.i2l, 1) := by decide +kernel
theorem dL_law_519 : decode cL_law 519 = .ok (.lcmp, 1) := by decide +kernel
theorem dL_law_520 : decode cL_law 520 = .ok (.ifCond .eq 5, 3) := by decide +kernel
theorem dL_law_523 : decode cL_law 523 = .ok (.iconst 0, 1) := by decide +kernel
theorem dL_law_524 : decode cL_law 524 = .ok (.ireturn, 1) := by decide +kernel
theorem dL_law_525 : decode cL_law 525 = .ok (.goto 1271, 3) := by decide +kernel
theorem dL_law_528 : decode cL_law 528 = .ok (.aload_n 1, 1) := by decide +kernel
theorem dL_law_529 : decode cL_law 529 = .ok (.aload_n 0, 1) := by decide +kernel
theorem dL_law_530 : decode cL_law 530 = .ok (.iload 4, 2) := by decide +kernel
theorem dL_law_532 : decode cL_law 532 = .ok (.iconst 1, 1) := by decide +kernel
theorem dL_law_533 : decode cL_law 533 = .ok (.iadd, 1) := by decide +kernel
theorem dL_law_534 : decode cL_law 534 = .ok (.iaload, 1) := by decide +kernel
theorem dL_law_535 : decode cL_law 535 = .ok (.aload_n 0, 1) := by decide +kernel
theorem dL_law_536 : decode cL_law 536 = .ok (.iload 4, 2) := by decide +kernel
theorem dL_law_538 : decode cL_law 538 = .ok (.iconst 2, 1) := by decide +kernel
theorem dL_law_539 : decode cL_law 539 = .ok (.iadd, 1) := by decide +kernel
theorem dL_law_540 : decode cL_law 540 = .ok (.iaload, 1) := by decide +kernel
theorem dL_law_541 : decode cL_law 541 = .ok (.aload_n 3, 1) := by decide +kernel
theorem dL_law_542 : decode cL_law 542 = .ok (.invokestatic 119, 3) := by decide +kernel
theorem dL_law_545 : decode cL_law 545 = .ok (.istore 5, 2) := by decide +kernel
theorem dL_law_547 : decode cL_law 547 = .ok (.aload_n 2, 1) := by decide +kernel
theorem dL_law_548 : decode cL_law 548 = .ok (.aload_n 0, 1) := by decide +kernel
theorem dL_law_549 : decode cL_law 549 = .ok (.iload 4, 2) := by decide +kernel
theorem dL_law_551 : decode cL_law 551 = .ok (.iconst 1, 1) := by decide +kernel
theorem dL_law_552 : decode cL_law 552 = .ok (.iadd, 1) := by decide +kernel
theorem dL_law_553 : decode cL_law 553 = .ok (.iaload, 1) := by decide +kernel
theorem dL_law_554 : decode cL_law 554 = .ok (.aload_n 0, 1) := by decide +kernel
theorem dL_law_555 : decode cL_law 555 = .ok (.iload 4, 2) := by decide +kernel
theorem dL_law_557 : decode cL_law 557 = .ok (.iconst 2, 1) := by decide +kernel
theorem dL_law_558 : decode cL_law 558 = .ok (.iadd, 1) := by decide +kernel
theorem dL_law_559 : decode cL_law 559 = .ok (.iaload, 1) := by decide +kernel
theorem dL_law_560 : decode cL_law 560 = .ok (.invokevirtual 121, 3) := by decide +kernel
theorem dL_law_563 : decode cL_law 563 = .ok (.istore 6, 2) := by decide +kernel
theorem dL_law_565 : decode cL_law 565 = .ok (.aload_n 2, 1) := by decide +kernel
theorem dL_law_566 : decode cL_law 566 = .ok (.invokevirtual 101, 3) := by decide +kernel
theorem dL_law_569 : decode cL_law 569 = .ok (.iload 5, 2) := by decide +kernel
theorem dL_law_571 : decode cL_law 571 = .ok (.if_icmp .eq 5, 3) := by decide +kernel
theorem dL_law_574 : decode cL_law 574 = .ok (.iconst 0, 1) := by decide +kernel
theorem dL_law_575 : decode cL_law 575 = .ok (.ireturn, 1) := by decide +kernel
theorem dL_law_576 : decode cL_law 576 = .ok (.iload 5, 2) := by decide +kernel
theorem dL_law_578 : decode cL_law 578 = .ok (.ifCond .ne 15, 3) := by decide +kernel
theorem dL_law_581 : decode cL_law 581 = .ok (.aload_n 3, 1) := by decide +kernel
theorem dL_law_582 : decode cL_law 582 = .ok (.iconst 0, 1) := by decide +kernel
theorem dL_law_583 : decode cL_law 583 = .ok (.laload, 1) := by decide +kernel
theorem dL_law_584 : decode cL_law 584 = .ok (.iload 6, 2) := by decide +kernel
theorem dL_law_586 : decode cL_law 586 = .ok (.i2l, 1) := by decide +kernel
theorem dL_law_587 : decode cL_law 587 = .ok (.lcmp, 1) := by decide +kernel
theorem dL_law_588 : decode cL_law 588 = .ok (.ifCond .eq 5, 3) := by decide +kernel
theorem dL_law_591 : decode cL_law 591 = .ok (.iconst 0, 1) := by decide +kernel
theorem dL_law_592 : decode cL_law 592 = .ok (.ireturn, 1) := by decide +kernel
theorem dL_law_593 : decode cL_law 593 = .ok (.goto 1203, 3) := by decide +kernel
theorem dL_law_596 : decode cL_law 596 = .ok (.aload_n 1, 1) := by decide +kernel
theorem dL_law_597 : decode cL_law 597 = .ok (.aload_n 0, 1) := by decide +kernel
theorem dL_law_598 : decode cL_law 598 = .ok (.iload 4, 2) := by decide +kernel
theorem dL_law_600 : decode cL_law 600 = .ok (.iconst 1, 1) := by decide +kernel
theorem dL_law_601 : decode cL_law 601 = .ok (.iadd, 1) := by decide +kernel
theorem dL_law_602 : decode cL_law 602 = .ok (.iaload, 1) := by decide +kernel
theorem dL_law_603 : decode cL_law 603 = .ok (.aload_n 3, 1) := by decide +kernel
theorem dL_law_604 : decode cL_law 604 = .ok (.invokestatic 122, 3) := by decide +kernel
theorem dL_law_607 : decode cL_law 607 = .ok (.istore 5, 2) := by decide +kernel
theorem dL_law_609 : decode cL_law 609 = .ok (.aload_n 2, 1) := by decide +kernel
theorem dL_law_610 : decode cL_law 610 = .ok (.aload_n 0, 1) := by decide +kernel
theorem dL_law_611 : decode cL_law 611 = .ok (.iload 4, 2) := by decide +kernel
theorem dL_law_613 : decode cL_law 613 = .ok (.iconst 1, 1) := by decide +kernel
theorem dL_law_614 : decode cL_law 614 = .ok (.iadd, 1) := by decide +kernel
theorem dL_law_615 : decode cL_law 615 = .ok (.iaload, 1) := by decide +kernel
theorem dL_law_616 : decode cL_law 616 = .ok (.invokevirtual 124, 3) := by decide +kernel
theorem dL_law_619 : decode cL_law 619 = .ok (.istore 6, 2) := by decide +kernel
theorem dL_law_621 : decode cL_law 621 = .ok (.aload_n 2, 1) := by decide +kernel
theorem dL_law_622 : decode cL_law 622 = .ok (.invokevirtual 101, 3) := by decide +kernel
theorem dL_law_625 : decode cL_law 625 = .ok (.iload 5, 2) := by decide +kernel
theorem dL_law_627 : decode cL_law 627 = .ok (.if_icmp .eq 5, 3) := by decide +kernel
theorem dL_law_630 : decode cL_law 630 = .ok (.iconst 0, 1) := by decide +kernel
theorem dL_law_631 : decode cL_law 631 = .ok (.ireturn, 1) := by decide +kernel
theorem dL_law_632 : decode cL_law 632 = .ok (.iload 5, 2) := by decide +kernel
theorem dL_law_634 : decode cL_law 634 = .ok (.ifCond .ne 15, 3) := by decide +kernel
theorem dL_law_637 : decode cL_law 637 = .ok (.aload_n 3, 1) := by decide +kernel
theorem dL_law_638 : decode cL_law 638 = .ok (.iconst 0, 1) := by decide +kernel
theorem dL_law_639 : decode cL_law 639 = .ok (.laload, 1) := by decide +kernel
theorem dL_law_640 : decode cL_law 640 = .ok (.iload 6, 2) := by decide +kernel
theorem dL_law_642 : decode cL_law 642 = .ok (.i2l, 1) := by decide +kernel
theorem dL_law_643 : decode cL_law 643 = .ok (.lcmp, 1) := by decide +kernel
theorem dL_law_644 : decode cL_law 644 = .ok (.ifCond .eq 5, 3) := by decide +kernel
theorem dL_law_647 : decode cL_law 647 = .ok (.iconst 0, 1) := by decide +kernel
theorem dL_law_648 : decode cL_law 648 = .ok (.ireturn, 1) := by decide +kernel
theorem dL_law_649 : decode cL_law 649 = .ok (.goto 1147, 3) := by decide +kernel
theorem dL_law_652 : decode cL_law 652 = .ok (.aload_n 1, 1) := by decide +kernel
theorem dL_law_653 : decode cL_law 653 = .ok (.invokevirtual 125, 3) := by decide +kernel
theorem dL_law_656 : decode cL_law 656 = .ok (.aload_n 2, 1) := by decide +kernel
theorem dL_law_657 : decode cL_law 657 = .ok (.invokevirtual 128, 3) := by decide +kernel
theorem dL_law_660 : decode cL_law 660 = .ok (.if_icmp .eq 1136, 3) := by decide +kernel
theorem dL_law_663 : decode cL_law 663 = .ok (.iconst 0, 1) := by decide +kernel
theorem dL_law_664 : decode cL_law 664 = .ok (.ireturn, 1) := by decide +kernel
theorem dL_law_665 : decode cL_law 665 = .ok (.aload_n 1, 1) := by decide +kernel
theorem dL_law_666 : decode cL_law 666 = .ok (.invokevirtual 129, 3) := by decide +kernel
theorem dL_law_669 : decode cL_law 669 = .ok (.aload_n 2, 1) := by decide +kernel
theorem dL_law_670 : decode cL_law 670 = .ok (.invokevirtual 132, 3) := by decide +kernel
theorem dL_law_673 : decode cL_law 673 = .ok (.if_icmp .eq 1123, 3) := by decide +kernel
theorem dL_law_676 : decode cL_law 676 = .ok (.iconst 0, 1) := by decide +kernel
theorem dL_law_677 : decode cL_law 677 = .ok (.ireturn, 1) := by decide +kernel
theorem dL_law_678 : decode cL_law 678 = .ok (.aload_n 1, 1) := by decide +kernel
theorem dL_law_679 : decode cL_law 679 = .ok (.invokevirtual 133, 3) := by decide +kernel
theorem dL_law_682 : decode cL_law 682 = .ok (.aload_n 2, 1) := by decide +kernel
theorem dL_law_683 : decode cL_law 683 = .ok (.invokevirtual 136, 3) := by decide +kernel
theorem dL_law_686 : decode cL_law 686 = .ok (.if_icmp .eq 1110, 3) := by decide +kernel
theorem dL_law_689 : decode cL_law 689 = .ok (.iconst 0, 1) := by decide +kernel
theorem dL_law_690 : decode cL_law 690 = .ok (.ireturn, 1) := by decide +kernel
theorem dL_law_691 : decode cL_law 691 = .ok (.aload_n 1, 1) := by decide +kernel
theorem dL_law_692 : decode cL_law 692 = .ok (.invokevirtual 137, 3) := by decide +kernel
theorem dL_law_695 : decode cL_law 695 = .ok (.aload_n 2, 1) := by decide +kernel
theorem dL_law_696 : decode cL_law 696 = .ok (.invokevirtual 140, 3) := by decide +kernel
theorem dL_law_699 : decode cL_law 699 = .ok (.if_icmp .eq 1097, 3) := by decide +kernel
theorem dL_law_702 : decode cL_law 702 = .ok (.iconst 0, 1) := by decide +kernel
theorem dL_law_703 : decode cL_law 703 = .ok (.ireturn, 1) := by decide +kernel
theorem dL_law_704 : decode cL_law 704 = .ok (.aload_n 1, 1) := by decide +kernel
theorem dL_law_705 : decode cL_law 705 = .ok (.invokevirtual 141, 3) := by decide +kernel
theorem dL_law_708 : decode cL_law 708 = .ok (.aload_n 2, 1) := by decide +kernel
theorem dL_law_709 : decode cL_law 709 = .ok (.invokevirtual 144, 3) := by decide +kernel
theorem dL_law_712 : decode cL_law 712 = .ok (.if_icmp .eq 1084, 3) := by decide +kernel
theorem dL_law_715 : decode cL_law 715 = .ok (.iconst 0, 1) := by decide +kernel
theorem dL_law_716 : decode cL_law 716 = .ok (.ireturn, 1) := by decide +kernel
theorem dL_law_717 : decode cL_law 717 = .ok (.aload_n 1, 1) := by decide +kernel
theorem dL_law_718 : decode cL_law 718 = .ok (.invokevirtual 145, 3) := by decide +kernel
theorem dL_law_721 : decode cL_law 721 = .ok (.aload_n 2, 1) := by decide +kernel
theorem dL_law_722 : decode cL_law 722 = .ok (.invokevirtual 148, 3) := by decide +kernel
theorem dL_law_725 : decode cL_law 725 = .ok (.if_icmp .eq 1071, 3) := by decide +kernel
theorem dL_law_728 : decode cL_law 728 = .ok (.iconst 0, 1) := by decide +kernel
theorem dL_law_729 : decode cL_law 729 = .ok (.ireturn, 1) := by decide +kernel
theorem dL_law_730 : decode cL_law 730 = .ok (.aload_n 1, 1) := by decide +kernel
theorem dL_law_731 : decode cL_law 731 = .ok (.invokevirtual 149, 3) := by decide +kernel
theorem dL_law_734 : decode cL_law 734 = .ok (.aload_n 2, 1) := by decide +kernel
theorem dL_law_735 : decode cL_law 735 = .ok (.invokevirtual 152, 3) := by decide +kernel
theorem dL_law_738 : decode cL_law 738 = .ok (.if_icmp .eq 1058, 3) := by decide +kernel
theorem dL_law_741 : decode cL_law 741 = .ok (.iconst 0, 1) := by decide +kernel
theorem dL_law_742 : decode cL_law 742 = .ok (.ireturn, 1) := by decide +kernel
theorem dL_law_743 : decode cL_law 743 = .ok (.aload_n 1, 1) := by decide +kernel
theorem dL_law_744 : decode cL_law 744 = .ok (.aload_n 0, 1) := by decide +kernel
theorem dL_law_745 : decode cL_law 745 = .ok (.iload 4, 2) := by decide +kernel
theorem dL_law_747 : decode cL_law 747 = .ok (.iconst 1, 1) := by decide +kernel
theorem dL_law_748 : decode cL_law 748 = .ok (.iadd, 1) := by decide +kernel
theorem dL_law_749 : decode cL_law 749 = .ok (.iaload, 1) := by decide +kernel
theorem dL_law_750 : decode cL_law 750 = .ok (.aload_n 3, 1) := by decide +kernel
theorem dL_law_751 : decode cL_law 751 = .ok (.invokestatic 153, 3) := by decide +kernel
theorem dL_law_754 : decode cL_law 754 = .ok (.istore 5, 2) := by decide +kernel
theorem dL_law_756 : decode cL_law 756 = .ok (.aload_n 2, 1) := by decide +kernel
theorem dL_law_757 : decode cL_law 757 = .ok (.aload_n 0, 1) := by decide +kernel
theorem dL_law_758 : decode cL_law 758 = .ok (.iload 4, 2) := by decide +kernel
theorem dL_law_760 : decode cL_law 760 = .ok (.iconst 1, 1) := by decide +kernel
theorem dL_law_761 : decode cL_law 761 = .ok (.iadd, 1) := by decide +kernel
theorem dL_law_762 : decode cL_law 762 = .ok (.iaload, 1) := by decide +kernel
theorem dL_law_763 : decode cL_law 763 = .ok (.invokevirtual 155, 3) := by decide +kernel
theorem dL_law_766 : decode cL_law 766 = .ok (.istore 6, 2) := by decide +kernel
theorem dL_law_768 : decode cL_law 768 = .ok (.aload_n 2, 1) := by decide +kernel
theorem dL_law_769 : decode cL_law 769 = .ok (.invokevirtual 101, 3) := by decide +kernel
theorem dL_law_772 : decode cL_law 772 = .ok (.iload 5, 2) := by decide +kernel
theorem dL_law_774 : decode cL_law 774 = .ok (.if_icmp .eq 5, 3) := by decide +kernel
theorem dL_law_777 : decode cL_law 777 = .ok (.iconst 0, 1) := by decide +kernel
theorem dL_law_778 : decode cL_law 778 = .ok (.ireturn, 1) := by decide +kernel
theorem dL_law_779 : decode cL_law 779 = .ok (.iload 5, 2) := by decide +kernel
theorem dL_law_781 : decode cL_law 781 = .ok (.ifCond .ne 15, 3) := by decide +kernel
theorem dL_law_784 : decode cL_law 784 = .ok (.aload_n 3, 1) := by decide +kernel
theorem dL_law_785 : decode cL_law 785 = .ok (.iconst 0, 1) := by decide +kernel
theorem dL_law_786 : decode cL_law 786 = .ok (.laload, 1) := by decide +kernel
theorem dL_law_787 : decode cL_law 787 = .ok (.iload 6, 2) := by decide +kernel
theorem dL_law_789 : decode cL_law 789 = .ok (.i2l, 1) := by decide +kernel
theorem dL_law_790 : decode cL_law 790 = .ok (.lcmp, 1) := by decide +kernel
theorem dL_law_791 : decode cL_law 791 = .ok (.ifCond .eq 5, 3) := by decide +kernel
theorem dL_law_794 : decode cL_law 794 = .ok (.iconst 0, 1) := by decide +kernel
theorem dL_law_795 : decode cL_law 795 = .ok (.ireturn, 1) := by decide +kernel
theorem dL_law_796 : decode cL_law 796 = .ok (.goto 1000, 3) := by decide +kernel
theorem dL_law_799 : decode cL_law 799 = .ok (.aload_n 1, 1) := by decide +kernel
theorem dL_law_800 : decode cL_law 800 = .ok (.aload_n 0, 1) := by decide +kernel
theorem dL_law_801 : decode cL_law 801 = .ok (.iload 4, 2) := by decide +kernel
theorem dL_law_803 : decode cL_law 803 = .ok (.iconst 1, 1) := by decide +kernel
theorem dL_law_804 : decode cL_law 804 = .ok (.iadd, 1) := by decide +kernel
theorem dL_law_805 : decode cL_law 805 = .ok (.iaload, 1) := by decide +kernel
theorem dL_law_806 : decode cL_law 806 = .ok (.aload_n 3, 1) := by decide +kernel
theorem dL_law_807 : decode cL_law 807 = .ok (.invokestatic 156, 3) := by decide +kernel
theorem dL_law_810 : decode cL_law 810 = .ok (.istore 5, 2) := by decide +kernel
theorem dL_law_812 : decode cL_law 812 = .ok (.aload_n 2, 1) := by decide +kernel
theorem dL_law_813 : decode cL_law 813 = .ok (.aload_n 0, 1) := by decide +kernel
theorem dL_law_814 : decode cL_law 814 = .ok (.iload 4, 2) := by decide +kernel
theorem dL_law_816 : decode cL_law 816 = .ok (.iconst 1, 1) := by decide +kernel
theorem dL_law_817 : decode cL_law 817 = .ok (.iadd, 1) := by decide +kernel
theorem dL_law_818 : decode cL_law 818 = .ok (.iaload, 1) := by decide +kernel
theorem dL_law_819 : decode cL_law 819 = .ok (.invokevirtual 158, 3) := by decide +kernel
theorem dL_law_822 : decode cL_law 822 = .ok (.istore 6, 2) := by decide +kernel
theorem dL_law_824 : decode cL_law 824 = .ok (.aload_n 2, 1) := by decide +kernel
theorem dL_law_825 : decode cL_law 825 = .ok (.invokevirtual 101, 3) := by decide +kernel
theorem dL_law_828 : decode cL_law 828 = .ok (.iload 5, 2) := by decide +kernel
theorem dL_law_830 : decode cL_law 830 = .ok (.if_icmp .eq 5, 3) := by decide +kernel
theorem dL_law_833 : decode cL_law 833 = .ok (.iconst 0, 1) := by decide +kernel
theorem dL_law_834 : decode cL_law 834 = .ok (.ireturn, 1) := by decide +kernel
theorem dL_law_835 : decode cL_law 835 = .ok (.iload 5, 2) := by decide +kernel
theorem dL_law_837 : decode cL_law 837 = .ok (.ifCond .ne 15, 3) := by decide +kernel
theorem dL_law_840 : decode cL_law 840 = .ok (.aload_n 3, 1) := by decide +kernel
theorem dL_law_841 : decode cL_law 841 = .ok (.iconst 0, 1) := by decide +kernel
theorem dL_law_842 : decode cL_law 842 = .ok (.laload, 1) := by decide +kernel
theorem dL_law_843 : decode cL_law 843 = .ok (.iload 6, 2) := by decide +kernel
theorem dL_law_845 : decode cL_law 845 = .ok (.i2l, 1) := by decide +kernel
theorem dL_law_846 : decode cL_law 846 = .ok (.lcmp, 1) := by decide +kernel
theorem dL_law_847 : decode cL_law 847 = .ok (.ifCond .eq 5, 3) := by decide +kernel
theorem dL_law_850 : decode cL_law 850 = .ok (.iconst 0, 1) := by decide +kernel
theorem dL_law_851 : decode cL_law 851 = .ok (.ireturn, 1) := by decide +kernel
theorem dL_law_852 : decode cL_law 852 = .ok (.goto 944, 3) := by decide +kernel
theorem dL_law_855 : decode cL_law 855 = .ok (.aload_n 1, 1) := by decide +kernel
theorem dL_law_856 : decode cL_law 856 = .ok (.aload_n 0, 1) := by decide +kernel
theorem dL_law_857 : decode cL_law 857 = .ok (.iload 4, 2) := by decide +kernel
theorem dL_law_859 : decode cL_law 859 = .ok (.iconst 1, 1) := by decide +kernel
theorem dL_law_860 : decode cL_law 860 = .ok (.iadd, 1) := by decide +kernel
theorem dL_law_861 : decode cL_law 861 = .ok (.iaload, 1) := by decide +kernel
theorem dL_law_862 : decode cL_law 862 = .ok (.aload_n 3, 1) := by decide +kernel
theorem dL_law_863 : decode cL_law 863 = .ok (.invokestatic 159, 3) := by decide +kernel
theorem dL_law_866 : decode cL_law 866 = .ok (.istore 5, 2) := by decide +kernel
theorem dL_law_868 : decode cL_law 868 = .ok (.aload_n 2, 1) := by decide +kernel
theorem dL_law_869 : decode cL_law 869 = .ok (.aload_n 0, 1) := by decide +kernel
theorem dL_law_870 : decode cL_law 870 = .ok (.iload 4, 2) := by decide +kernel
theorem dL_law_872 : decode cL_law 872 = .ok (.iconst 1, 1) := by decide +kernel
theorem dL_law_873 : decode cL_law 873 = .ok (.iadd, 1) := by decide +kernel
theorem dL_law_874 : decode cL_law 874 = .ok (.iaload, 1) := by decide +kernel
theorem dL_law_875 : decode cL_law 875 = .ok (.invokevirtual 161, 3) := by decide +kernel
theorem dL_law_878 : decode cL_law 878 = .ok (.istore 6, 2) := by decide +kernel
theorem dL_law_880 : decode cL_law 880 = .ok (.aload_n 2, 1) := by decide +kernel
theorem dL_law_881 : decode cL_law 881 = .ok (.invokevirtual 101, 3) := by decide +kernel
theorem dL_law_884 : decode cL_law 884 = .ok (.iload 5, 2) := by decide +kernel
theorem dL_law_886 : decode cL_law 886 = .ok (.if_icmp .eq 5, 3) := by decide +kernel
theorem dL_law_889 : decode cL_law 889 = .ok (.iconst 0, 1) := by decide +kernel
theorem dL_law_890 : decode cL_law 890 = .ok (.ireturn, 1) := by decide +kernel
theorem dL_law_891 : decode cL_law 891 = .ok (.iload 5, 2) := by decide +kernel
theorem dL_law_893 : decode cL_law 893 = .ok (.ifCond .ne 15, 3) := by decide +kernel
theorem dL_law_896 : decode cL_law 896 = .ok (.aload_n 3, 1) := by decide +kernel
theorem dL_law_897 : decode cL_law 897 = .ok (.iconst 0, 1) := by decide +kernel
theorem dL_law_898 : decode cL_law 898 = .ok (.laload, 1) := by decide +kernel
theorem dL_law_899 : decode cL_law 899 = .ok (.iload 6, 2) := by decide +kernel
theorem dL_law_901 : decode cL_law 901 = .ok (.i2l, 1) := by decide +kernel
theorem dL_law_902 : decode cL_law 902 = .ok (.lcmp, 1) := by decide +kernel
theorem dL_law_903 : decode cL_law 903 = .ok (.ifCond .eq 5, 3) := by decide +kernel
theorem dL_law_906 : decode cL_law 906 = .ok (.iconst 0, 1) := by decide +kernel
theorem dL_law_907 : decode cL_law 907 = .ok (.ireturn, 1) := by decide +kernel
theorem dL_law_908 : decode cL_law 908 = .ok (.goto 888, 3) := by decide +kernel
theorem dL_law_911 : decode cL_law 911 = .ok (.aload_n 1, 1) := by decide +kernel
theorem dL_law_912 : decode cL_law 912 = .ok (.aload_n 0, 1) := by decide +kernel
theorem dL_law_913 : decode cL_law 913 = .ok (.iload 4, 2) := by decide +kernel
theorem dL_law_915 : decode cL_law 915 = .ok (.iconst 1, 1) := by decide +kernel
theorem dL_law_916 : decode cL_law 916 = .ok (.iadd, 1) := by decide +kernel
theorem dL_law_917 : decode cL_law 917 = .ok (.iaload, 1) := by decide +kernel
theorem dL_law_918 : decode cL_law 918 = .ok (.aload_n 3, 1) := by decide +kernel
theorem dL_law_919 : decode cL_law 919 = .ok (.invokestatic 162, 3) := by decide +kernel
theorem dL_law_922 : decode cL_law 922 = .ok (.istore 5, 2) := by decide +kernel
theorem dL_law_924 : decode cL_law 924 = .ok (.aload_n 2, 1) := by decide +kernel
theorem dL_law_925 : decode cL_law 925 = .ok (.aload_n 0, 1) := by decide +kernel
theorem dL_law_926 : decode cL_law 926 = .ok (.iload 4, 2) := by decide +kernel
theorem dL_law_928 : decode cL_law 928 = .ok (.iconst 1, 1) := by decide +kernel
theorem dL_law_929 : decode cL_law 929 = .ok (.iadd, 1) := by decide +kernel
theorem dL_law_930 : decode cL_law 930 = .ok (.iaload, 1) := by decide +kernel
theorem dL_law_931 : decode cL_law 931 = .ok (.invokevirtual 164, 3) := by decide +kernel
theorem dL_law_934 : decode cL_law 934 = .ok (.istore 6, 2) := by decide +kernel
theorem dL_law_936 : decode cL_law 936 = .ok (.aload_n 2, 1) := by decide +kernel
theorem dL_law_937 : decode cL_law 937 = .ok (.invokevirtual 101, 3) := by decide +kernel
theorem dL_law_940 : decode cL_law 940 = .ok (.iload 5, 2) := by decide +kernel
theorem dL_law_942 : decode cL_law 942 = .ok (.if_icmp .eq 5, 3) := by decide +kernel
theorem dL_law_945 : decode cL_law 945 = .ok (.iconst 0, 1) := by decide +kernel
theorem dL_law_946 : decode cL_law 946 = .ok (.ireturn, 1) := by decide +kernel
theorem dL_law_947 : decode cL_law 947 = .ok (.iload 5, 2) := by decide +kernel
theorem dL_law_949 : decode cL_law 949 = .ok (.ifCond .ne 15, 3) := by decide +kernel
theorem dL_law_952 : decode cL_law 952 = .ok (.aload_n 3, 1) := by decide +kernel
theorem dL_law_953 : decode cL_law 953 = .ok (.iconst 0, 1) := by decide +kernel
theorem dL_law_954 : decode cL_law 954 = .ok (.laload, 1) := by decide +kernel
theorem dL_law_955 : decode cL_law 955 = .ok (.iload 6, 2) := by decide +kernel
theorem dL_law_957 : decode cL_law 957 = .ok (.i2l, 1) := by decide +kernel
theorem dL_law_958 : decode cL_law 958 = .ok (.lcmp, 1) := by decide +kernel
theorem dL_law_959 : decode cL_law 959 = .ok (.ifCond .eq 5, 3) := by decide +kernel
theorem dL_law_962 : decode cL_law 962 = .ok (.iconst 0, 1) := by decide +kernel
theorem dL_law_963 : decode cL_law 963 = .ok (.ireturn, 1) := by decide +kernel
theorem dL_law_964 : decode cL_law 964 = .ok (.goto 832, 3) := by decide +kernel
theorem dL_law_967 : decode cL_law 967 = .ok (.aload_n 1, 1) := by decide +kernel
theorem dL_law_968 : decode cL_law 968 = .ok (.aload_n 0, 1) := by decide +kernel
theorem dL_law_969 : decode cL_law 969 = .ok (.iload 4, 2) := by decide +kernel
theorem dL_law_971 : decode cL_law 971 = .ok (.iconst 1, 1) := by decide +kernel
theorem dL_law_972 : decode cL_law 972 = .ok (.iadd, 1) := by decide +kernel
theorem dL_law_973 : decode cL_law 973 = .ok (.iaload, 1) := by decide +kernel
theorem dL_law_974 : decode cL_law 974 = .ok (.aload_n 3, 1) := by decide +kernel
theorem dL_law_975 : decode cL_law 975 = .ok (.invokestatic 165, 3) := by decide +kernel
theorem dL_law_978 : decode cL_law 978 = .ok (.istore 5, 2) := by decide +kernel
theorem dL_law_980 : decode cL_law 980 = .ok (.aload_n 2, 1) := by decide +kernel
theorem dL_law_981 : decode cL_law 981 = .ok (.aload_n 0, 1) := by decide +kernel
theorem dL_law_982 : decode cL_law 982 = .ok (.iload 4, 2) := by decide +kernel
theorem dL_law_984 : decode cL_law 984 = .ok (.iconst 1, 1) := by decide +kernel
theorem dL_law_985 : decode cL_law 985 = .ok (.iadd, 1) := by decide +kernel
theorem dL_law_986 : decode cL_law 986 = .ok (.iaload, 1) := by decide +kernel
theorem dL_law_987 : decode cL_law 987 = .ok (.invokevirtual 167, 3) := by decide +kernel
theorem dL_law_990 : decode cL_law 990 = .ok (.istore 6, 2) := by decide +kernel
theorem dL_law_992 : decode cL_law 992 = .ok (.aload_n 2, 1) := by decide +kernel
theorem dL_law_993 : decode cL_law 993 = .ok (.invokevirtual 101, 3) := by decide +kernel
theorem dL_law_996 : decode cL_law 996 = .ok (.iload 5, 2) := by decide +kernel
theorem dL_law_998 : decode cL_law 998 = .ok (.if_icmp .eq 5, 3) := by decide +kernel
theorem dL_law_1001 : decode cL_law 1001 = .ok (.iconst 0, 1) := by decide +kernel
theorem dL_law_1002 : decode cL_law 1002 = .ok (.ireturn, 1) := by decide +kernel
theorem dL_law_1003 : decode cL_law 1003 = .ok (.iload 5, 2) := by decide +kernel
theorem dL_law_1005 : decode cL_law 1005 = .ok (.ifCond .ne 22, 3) := by decide +kernel
theorem dL_law_1008 : decode cL_law 1008 = .ok (.aload_n 3, 1) := by decide +kernel
theorem dL_law_1009 : decode cL_law 1009 = .ok (.iconst 0, 1) := by decide +kernel
theorem dL_law_1010 : decode cL_law 1010 = .ok (.laload, 1) := by decide +kernel
theorem dL_law_1011 : decode cL_law 1011 = .ok (.iload 6, 2) := by decide +kernel
theorem dL_law_1013 : decode cL_law 1013 = .ok (.ifCond .eq 7, 3) := by decide +kernel
theorem dL_law_1016 : decode cL_law 1016 = .ok (.lconst 1, 1) := by decide +kernel
theorem dL_law_1017 : decode cL_law 1017 = .ok (.goto 4, 3) := by decide +kernel
theorem dL_law_1020 : decode cL_law 1020 = .ok (.lconst 0, 1) := by decide +kernel
theorem dL_law_1021 : decode cL_law 1021 = .ok (.lcmp, 1) := by decide +kernel
theorem dL_law_1022 : decode cL_law 1022 = .ok (.ifCond .eq 5, 3) := by decide +kernel
theorem dL_law_1025 : decode cL_law 1025 = .ok (.iconst 0, 1) := by decide +kernel
theorem dL_law_1026 : decode cL_law 1026 = .ok (.ireturn, 1) := by decide +kernel
theorem dL_law_1027 : decode cL_law 1027 = .ok (.goto 769, 3) := by decide +kernel
theorem dL_law_1030 : decode cL_law 1030 = .ok (.aload_n 1, 1) := by decide +kernel
theorem dL_law_1031 : decode cL_law 1031 = .ok (.aload_n 0, 1) := by decide +kernel
theorem dL_law_1032 : decode cL_law 1032 = .ok (.iload 4, 2) := by decide +kernel
theorem dL_law_1034 : decode cL_law 1034 = .ok (.iconst 1, 1) := by decide +kernel
theorem dL_law_1035 : decode cL_law 1035 = .ok (.iadd, 1) := by decide +kernel
theorem dL_law_1036 : decode cL_law 1036 = .ok (.iaload, 1) := by decide +kernel
theorem dL_law_1037 : decode cL_law 1037 = .ok (.aload_n 3, 1) := by decide +kernel
theorem dL_law_1038 : decode cL_law 1038 = .ok (.invokestatic 168, 3) := by decide +kernel
theorem dL_law_1041 : decode cL_law 1041 = .ok (.istore 5, 2) := by decide +kernel
theorem dL_law_1043 : decode cL_law 1043 = .ok (.aload_n 2, 1) := by decide +kernel
theorem dL_law_1044 : decode cL_law 1044 = .ok (.aload_n 0, 1) := by decide +kernel
theorem dL_law_1045 : decode cL_law 1045 = .ok (.iload 4, 2) := by decide +kernel
theorem dL_law_1047 : decode cL_law 1047 = .ok (.iconst 1, 1) := by decide +kernel
theorem dL_law_1048 : decode cL_law 1048 = .ok (.iadd, 1) := by decide +kernel
theorem dL_law_1049 : decode cL_law 1049 = .ok (.iaload, 1) := by decide +kernel
theorem dL_law_1050 : decode cL_law 1050 = .ok (.invokevirtual 170, 3) := by decide +kernel
theorem dL_law_1053 : decode cL_law 1053 = .ok (.istore 6, 2) := by decide +kernel
theorem dL_law_1055 : decode cL_law 1055 = .ok (.aload_n 2, 1) := by decide +kernel
theorem dL_law_1056 : decode cL_law 1056 = .ok (.invokevirtual 101, 3) := by decide +kernel
theorem dL_law_1059 : decode cL_law 1059 = .ok (.iload 5, 2) := by decide +kernel
theorem dL_law_1061 : decode cL_law 1061 = .ok (.if_icmp .eq 5, 3) := by decide +kernel
theorem dL_law_1064 : decode cL_law 1064 = .ok (.iconst 0, 1) := by decide +kernel
theorem dL_law_1065 : decode cL_law 1065 = .ok (.ireturn, 1) := by decide +kernel
theorem dL_law_1066 : decode cL_law 1066 = .ok (.iload 5, 2) := by decide +kernel
theorem dL_law_1068 : decode cL_law 1068 = .ok (.ifCond .ne 15, 3) := by decide +kernel
theorem dL_law_1071 : decode cL_law 1071 = .ok (.aload_n 3, 1) := by decide +kernel
theorem dL_law_1072 : decode cL_law 1072 = .ok (.iconst 0, 1) := by decide +kernel
theorem dL_law_1073 : decode cL_law 1073 = .ok (.laload, 1) := by decide +kernel
theorem dL_law_1074 : decode cL_law 1074 = .ok (.iload 6, 2) := by decide +kernel
theorem dL_law_1076 : decode cL_law 1076 = .ok (.i2l, 1) := by decide +kernel
theorem dL_law_1077 : decode cL_law 1077 = .ok (.lcmp, 1) := by decide +kernel
theorem dL_law_1078 : decode cL_law 1078 = .ok (.ifCond .eq 5, 3) := by decide +kernel
theorem dL_law_1081 : decode cL_law 1081 = .ok (.iconst 0, 1) := by decide +kernel
theorem dL_law_1082 : decode cL_law 1082 = .ok (.ireturn, 1) := by decide +kernel
theorem dL_law_1083 : decode cL_law 1083 = .ok (.goto 713, 3) := by decide +kernel
theorem dL_law_1086 : decode cL_law 1086 = .ok (.aload_n 1, 1) := by decide +kernel
theorem dL_law_1087 : decode cL_law 1087 = .ok (.aload_n 0, 1) := by decide +kernel
theorem dL_law_1088 : decode cL_law 1088 = .ok (.iload 4, 2) := by decide +kernel
theorem dL_law_1090 : decode cL_law 1090 = .ok (.iconst 1, 1) := by decide +kernel
theorem dL_law_1091 : decode cL_law 1091 = .ok (.iadd, 1) := by decide +kernel
theorem dL_law_1092 : decode cL_law 1092 = .ok (.iaload, 1) := by decide +kernel
theorem dL_law_1093 : decode cL_law 1093 = .ok (.aload_n 3, 1) := by decide +kernel
theorem dL_law_1094 : decode cL_law 1094 = .ok (.invokestatic 171, 3) := by decide +kernel
theorem dL_law_1097 : decode cL_law 1097 = .ok (.istore 5, 2) := by decide +kernel
theorem dL_law_1099 : decode cL_law 1099 = .ok (.aload_n 2, 1) := by decide +kernel
theorem dL_law_1100 : decode cL_law 1100 = .ok (.aload_n 0, 1) := by decide +kernel
theorem dL_law_1101 : decode cL_law 1101 = .ok (.iload 4, 2) := by decide +kernel
theorem dL_law_1103 : decode cL_law 1103 = .ok (.iconst 1, 1) := by decide +kernel
theorem dL_law_1104 : decode cL_law 1104 = .ok (.iadd, 1) := by decide +kernel
theorem dL_law_1105 : decode cL_law 1105 = .ok (.iaload, 1) := by decide +kernel
theorem dL_law_1106 : decode cL_law 1106 = .ok (.invokevirtual 173, 3) := by decide +kernel
theorem dL_law_1109 : decode cL_law 1109 = .ok (.istore 6, 2) := by decide +kernel
theorem dL_law_1111 : decode cL_law 1111 = .ok (.aload_n 2, 1) := by decide +kernel
theorem dL_law_1112 : decode cL_law 1112 = .ok (.invokevirtual 101, 3) := by decide +kernel
theorem dL_law_1115 : decode cL_law 1115 = .ok (.iload 5, 2) := by decide +kernel
theorem dL_law_1117 : decode cL_law 1117 = .ok (.if_icmp .eq 5, 3) := by decide +kernel
theorem dL_law_1120 : decode cL_law 1120 = .ok (.iconst 0, 1) := by decide +kernel
theorem dL_law_1121 : decode cL_law 1121 = .ok (.ireturn, 1) := by decide +kernel
theorem dL_law_1122 : decode cL_law 1122 = .ok (.iload 5, 2) := by decide +kernel
theorem dL_law_1124 : decode cL_law 1124 = .ok (.ifCond .ne 15, 3) := by decide +kernel
theorem dL_law_1127 : decode cL_law 1127 = .ok (.aload_n 3, 1) := by decide +kernel
theorem dL_law_1128 : decode cL_law 1128 = .ok (.iconst 0, 1) := by decide +kernel
theorem dL_law_1129 : decode cL_law 1129 = .ok (.laload, 1) := by decide +kernel
theorem dL_law_1130 : decode cL_law 1130 = .ok (.iload 6, 2) := by decide +kernel
theorem dL_law_1132 : decode cL_law 1132 = .ok (.i2l, 1) := by decide +kernel
theorem dL_law_1133 : decode cL_law 1133 = .ok (.lcmp, 1) := by decide +kernel
theorem dL_law_1134 : decode cL_law 1134 = .ok (.ifCond .eq 5, 3) := by decide +kernel
theorem dL_law_1137 : decode cL_law 1137 = .ok (.iconst 0, 1) := by decide +kernel
theorem dL_law_1138 : decode cL_law 1138 = .ok (.ireturn, 1) := by decide +kernel
theorem dL_law_1139 : decode cL_law 1139 = .ok (.goto 657, 3) := by decide +kernel
theorem dL_law_1142 : decode cL_law 1142 = .ok (.aload_n 1, 1) := by decide +kernel
theorem dL_law_1143 : decode cL_law 1143 = .ok (.aload_n 0, 1) := by decide +kernel
theorem dL_law_1144 : decode cL_law 1144 = .ok (.iload 4, 2) := by decide +kernel
theorem dL_law_1146 : decode cL_law 1146 = .ok (.iconst 1, 1) := by decide +kernel
theorem dL_law_1147 : decode cL_law 1147 = .ok (.iadd, 1) := by decide +kernel
theorem dL_law_1148 : decode cL_law 1148 = .ok (.iaload, 1) := by decide +kernel
theorem dL_law_1149 : decode cL_law 1149 = .ok (.aload_n 3, 1) := by decide +kernel
theorem dL_law_1150 : decode cL_law 1150 = .ok (.invokestatic 174, 3) := by decide +kernel
theorem dL_law_1153 : decode cL_law 1153 = .ok (.istore 5, 2) := by decide +kernel
theorem dL_law_1155 : decode cL_law 1155 = .ok (.aload_n 2, 1) := by decide +kernel
theorem dL_law_1156 : decode cL_law 1156 = .ok (.aload_n 0, 1) := by decide +kernel
theorem dL_law_1157 : decode cL_law 1157 = .ok (.iload 4, 2) := by decide +kernel
theorem dL_law_1159 : decode cL_law 1159 = .ok (.iconst 1, 1) := by decide +kernel
theorem dL_law_1160 : decode cL_law 1160 = .ok (.iadd, 1) := by decide +kernel
theorem dL_law_1161 : decode cL_law 1161 = .ok (.iaload, 1) := by decide +kernel
theorem dL_law_1162 : decode cL_law 1162 = .ok (.invokevirtual 176, 3) := by decide +kernel
theorem dL_law_1165 : decode cL_law 1165 = .ok (.istore 6, 2) := by decide +kernel
theorem dL_law_1167 : decode cL_law 1167 = .ok (.aload_n 2, 1) := by decide +kernel
theorem dL_law_1168 : decode cL_law 1168 = .ok (.invokevirtual 101, 3) := by decide +kernel
theorem dL_law_1171 : decode cL_law 1171 = .ok (.iload 5, 2) := by decide +kernel
theorem dL_law_1173 : decode cL_law 1173 = .ok (.if_icmp .eq 5, 3) := by decide +kernel
theorem dL_law_1176 : decode cL_law 1176 = .ok (.iconst 0, 1) := by decide +kernel
theorem dL_law_1177 : decode cL_law 1177 = .ok (.ireturn, 1) := by decide +kernel
theorem dL_law_1178 : decode cL_law 1178 = .ok (.iload 5, 2) := by decide +kernel
theorem dL_law_1180 : decode cL_law 1180 = .ok (.ifCond .ne 15, 3) := by decide +kernel
theorem dL_law_1183 : decode cL_law 1183 = .ok (.aload_n 3, 1) := by decide +kernel
theorem dL_law_1184 : decode cL_law 1184 = .ok (.iconst 0, 1) := by decide +kernel
theorem dL_law_1185 : decode cL_law 1185 = .ok (.laload, 1) := by decide +kernel
theorem dL_law_1186 : decode cL_law 1186 = .ok (.iload 6, 2) := by decide +kernel
theorem dL_law_1188 : decode cL_law 1188 = .ok (.i2l, 1) := by decide +kernel
theorem dL_law_1189 : decode cL_law 1189 = .ok (.lcmp, 1) := by decide +kernel
theorem dL_law_1190 : decode cL_law 1190 = .ok (.ifCond .eq 5, 3) := by decide +kernel
theorem dL_law_1193 : decode cL_law 1193 = .ok (.iconst 0, 1) := by decide +kernel
theorem dL_law_1194 : decode cL_law 1194 = .ok (.ireturn, 1) := by decide +kernel
theorem dL_law_1195 : decode cL_law 1195 = .ok (.goto 601, 3) := by decide +kernel
theorem dL_law_1198 : decode cL_law 1198 = .ok (.aload_n 1, 1) := by decide +kernel
theorem dL_law_1199 : decode cL_law 1199 = .ok (.aload_n 0, 1) := by decide +kernel
theorem dL_law_1200 : decode cL_law 1200 = .ok (.iload 4, 2) := by decide +kernel
theorem dL_law_1202 : decode cL_law 1202 = .ok (.iconst 1, 1) := by decide +kernel
theorem dL_law_1203 : decode cL_law 1203 = .ok (.iadd, 1) := by decide +kernel
theorem dL_law_1204 : decode cL_law 1204 = .ok (.iaload, 1) := by decide +kernel
theorem dL_law_1205 : decode cL_law 1205 = .ok (.aload_n 3, 1) := by decide +kernel
theorem dL_law_1206 : decode cL_law 1206 = .ok (.invokestatic 177, 3) := by decide +kernel
theorem dL_law_1209 : decode cL_law 1209 = .ok (.istore 5, 2) := by decide +kernel
theorem dL_law_1211 : decode cL_law 1211 = .ok (.aload_n 2, 1) := by decide +kernel
theorem dL_law_1212 : decode cL_law 1212 = .ok (.aload_n 0, 1) := by decide +kernel
theorem dL_law_1213 : decode cL_law 1213 = .ok (.iload 4, 2) := by decide +kernel
theorem dL_law_1215 : decode cL_law 1215 = .ok (.iconst 1, 1) := by decide +kernel
theorem dL_law_1216 : decode cL_law 1216 = .ok (.iadd, 1) := by decide +kernel
theorem dL_law_1217 : decode cL_law 1217 = .ok (.iaload, 1) := by decide +kernel
theorem dL_law_1218 : decode cL_law 1218 = .ok (.invokevirtual 179, 3) := by decide +kernel
theorem dL_law_1221 : decode cL_law 1221 = .ok (.istore 6, 2) := by decide +kernel
theorem dL_law_1223 : decode cL_law 1223 = .ok (.aload_n 2, 1) := by decide +kernel
theorem dL_law_1224 : decode cL_law 1224 = .ok (.invokevirtual 101, 3) := by decide +kernel
theorem dL_law_1227 : decode cL_law 1227 = .ok (.iload 5, 2) := by decide +kernel
theorem dL_law_1229 : decode cL_law 1229 = .ok (.if_icmp .eq 5, 3) := by decide +kernel
theorem dL_law_1232 : decode cL_law 1232 = .ok (.iconst 0, 1) := by decide +kernel
theorem dL_law_1233 : decode cL_law 1233 = .ok (.ireturn, 1) := by decide +kernel
theorem dL_law_1234 : decode cL_law 1234 = .ok (.iload 5, 2) := by decide +kernel
theorem dL_law_1236 : decode cL_law 1236 = .ok (.ifCond .ne 15, 3) := by decide +kernel
theorem dL_law_1239 : decode cL_law 1239 = .ok (.aload_n 3, 1) := by decide +kernel
theorem dL_law_1240 : decode cL_law 1240 = .ok (.iconst 0, 1) := by decide +kernel
theorem dL_law_1241 : decode cL_law 1241 = .ok (.laload, 1) := by decide +kernel
theorem dL_law_1242 : decode cL_law 1242 = .ok (.iload 6, 2) := by decide +kernel
theorem dL_law_1244 : decode cL_law 1244 = .ok (.i2l, 1) := by decide +kernel
theorem dL_law_1245 : decode cL_law 1245 = .ok (.lcmp, 1) := by decide +kernel
theorem dL_law_1246 : decode cL_law 1246 = .ok (.ifCond .eq 5, 3) := by decide +kernel
theorem dL_law_1249 : decode cL_law 1249 = .ok (.iconst 0, 1) := by decide +kernel
theorem dL_law_1250 : decode cL_law 1250 = .ok (.ireturn, 1) := by decide +kernel
theorem dL_law_1251 : decode cL_law 1251 = .ok (.goto 545, 3) := by decide +kernel
theorem dL_law_1254 : decode cL_law 1254 = .ok (.aload_n 1, 1) := by decide +kernel
theorem dL_law_1255 : decode cL_law 1255 = .ok (.invokevirtual 180, 3) := by decide +kernel
theorem dL_law_1258 : decode cL_law 1258 = .ok (.aload_n 2, 1) := by decide +kernel
theorem dL_law_1259 : decode cL_law 1259 = .ok (.invokevirtual 183, 3) := by decide +kernel
theorem dL_law_1262 : decode cL_law 1262 = .ok (.if_icmp .eq 534, 3) := by decide +kernel
theorem dL_law_1265 : decode cL_law 1265 = .ok (.iconst 0, 1) := by decide +kernel
theorem dL_law_1266 : decode cL_law 1266 = .ok (.ireturn, 1) := by decide +kernel
theorem dL_law_1267 : decode cL_law 1267 = .ok (.aload_n 1, 1) := by decide +kernel
theorem dL_law_1268 : decode cL_law 1268 = .ok (.aload_n 0, 1) := by decide +kernel
theorem dL_law_1269 : decode cL_law 1269 = .ok (.iload 4, 2) := by decide +kernel
theorem dL_law_1271 : decode cL_law 1271 = .ok (.iconst 1, 1) := by decide +kernel
theorem dL_law_1272 : decode cL_law 1272 = .ok (.iadd, 1) := by decide +kernel
theorem dL_law_1273 : decode cL_law 1273 = .ok (.iaload, 1) := by decide +kernel
theorem dL_law_1274 : decode cL_law 1274 = .ok (.aload_n 3, 1) := by decide +kernel
theorem dL_law_1275 : decode cL_law 1275 = .ok (.invokestatic 184, 3) := by decide +kernel
theorem dL_law_1278 : decode cL_law 1278 = .ok (.istore 5, 2) := by decide +kernel
theorem dL_law_1280 : decode cL_law 1280 = .ok (.aload_n 2, 1) := by decide +kernel
theorem dL_law_1281 : decode cL_law 1281 = .ok (.aload_n 0, 1) := by decide +kernel
theorem dL_law_1282 : decode cL_law 1282 = .ok (.iload 4, 2) := by decide +kernel
theorem dL_law_1284 : decode cL_law 1284 = .ok (.iconst 1, 1) := by decide +kernel
theorem dL_law_1285 : decode cL_law 1285 = .ok (.iadd, 1) := by decide +kernel
theorem dL_law_1286 : decode cL_law 1286 = .ok (.iaload, 1) := by decide +kernel
theorem dL_law_1287 : decode cL_law 1287 = .ok (.invokevirtual 186, 3) := by decide +kernel
theorem dL_law_1290 : decode cL_law 1290 = .ok (.istore 6, 2) := by decide +kernel
theorem dL_law_1292 : decode cL_law 1292 = .ok (.aload_n 2, 1) := by decide +kernel
theorem dL_law_1293 : decode cL_law 1293 = .ok (.invokevirtual 101, 3) := by decide +kernel
theorem dL_law_1296 : decode cL_law 1296 = .ok (.iload 5, 2) := by decide +kernel
theorem dL_law_1298 : decode cL_law 1298 = .ok (.if_icmp .eq 5, 3) := by decide +kernel
theorem dL_law_1301 : decode cL_law 1301 = .ok (.iconst 0, 1) := by decide +kernel
theorem dL_law_1302 : decode cL_law 1302 = .ok (.ireturn, 1) := by decide +kernel
theorem dL_law_1303 : decode cL_law 1303 = .ok (.iload 5, 2) := by decide +kernel
theorem dL_law_1305 : decode cL_law 1305 = .ok (.ifCond .ne 15, 3) := by decide +kernel
theorem dL_law_1308 : decode cL_law 1308 = .ok (.aload_n 3, 1) := by decide +kernel
theorem dL_law_1309 : decode cL_law 1309 = .ok (.iconst 0, 1) := by decide +kernel
theorem dL_law_1310 : decode cL_law 1310 = .ok (.laload, 1) := by decide +kernel
theorem dL_law_1311 : decode cL_law 1311 = .ok (.iload 6, 2) := by decide +kernel
theorem dL_law_1313 : decode cL_law 1313 = .ok (.i2l, 1) := by decide +kernel
theorem dL_law_1314 : decode cL_law 1314 = .ok (.lcmp, 1) := by decide +kernel
theorem dL_law_1315 : decode cL_law 1315 = .ok (.ifCond .eq 5, 3) := by decide +kernel
theorem dL_law_1318 : decode cL_law 1318 = .ok (.iconst 0, 1) := by decide +kernel
theorem dL_law_1319 : decode cL_law 1319 = .ok (.ireturn, 1) := by decide +kernel
theorem dL_law_1320 : decode cL_law 1320 = .ok (.goto 476, 3) := by decide +kernel
theorem dL_law_1323 : decode cL_law 1323 = .ok (.aload_n 1, 1) := by decide +kernel
theorem dL_law_1324 : decode cL_law 1324 = .ok (.aload_n 0, 1) := by decide +kernel
theorem dL_law_1325 : decode cL_law 1325 = .ok (.iload 4, 2) := by decide +kernel
theorem dL_law_1327 : decode cL_law 1327 = .ok (.iconst 1, 1) := by decide +kernel
theorem dL_law_1328 : decode cL_law 1328 = .ok (.iadd, 1) := by decide +kernel
theorem dL_law_1329 : decode cL_law 1329 = .ok (.iaload, 1) := by decide +kernel
theorem dL_law_1330 : decode cL_law 1330 = .ok (.aload_n 3, 1) := by decide +kernel
theorem dL_law_1331 : decode cL_law 1331 = .ok (.invokestatic 187, 3) := by decide +kernel
theorem dL_law_1334 : decode cL_law 1334 = .ok (.istore 5, 2) := by decide +kernel
theorem dL_law_1336 : decode cL_law 1336 = .ok (.aload_n 2, 1) := by decide +kernel
theorem dL_law_1337 : decode cL_law 1337 = .ok (.aload_n 0, 1) := by decide +kernel
theorem dL_law_1338 : decode cL_law 1338 = .ok (.iload 4, 2) := by decide +kernel
theorem dL_law_1340 : decode cL_law 1340 = .ok (.iconst 1, 1) := by decide +kernel
theorem dL_law_1341 : decode cL_law 1341 = .ok (.iadd, 1) := by decide +kernel
theorem dL_law_1342 : decode cL_law 1342 = .ok (.iaload, 1) := by decide +kernel
theorem dL_law_1343 : decode cL_law 1343 = .ok (.invokevirtual 189, 3) := by decide +kernel
theorem dL_law_1346 : decode cL_law 1346 = .ok (.istore 6, 2) := by decide +kernel
theorem dL_law_1348 : decode cL_law 1348 = .ok (.aload_n 2, 1) := by decide +kernel
theorem dL_law_1349 : decode cL_law 1349 = .ok (.invokevirtual 101, 3) := by decide +kernel
theorem dL_law_1352 : decode cL_law 1352 = .ok (.iload 5, 2) := by decide +kernel
theorem dL_law_1354 : decode cL_law 1354 = .ok (.if_icmp .eq 5, 3) := by decide +kernel
theorem dL_law_1357 : decode cL_law 1357 = .ok (.iconst 0, 1) := by decide +kernel
theorem dL_law_1358 : decode cL_law 1358 = .ok (.ireturn, 1) := by decide +kernel
theorem dL_law_1359 : decode cL_law 1359 = .ok (.iload 5, 2) := by decide +kernel
theorem dL_law_1361 : decode cL_law 1361 = .ok (.ifCond .ne 22, 3) := by decide +kernel
theorem dL_law_1364 : decode cL_law 1364 = .ok (.aload_n 3, 1) := by decide +kernel
theorem dL_law_1365 : decode cL_law 1365 = .ok (.iconst 0, 1) := by decide +kernel
theorem dL_law_1366 : decode cL_law 1366 = .ok (.laload, 1) := by decide +kernel
theorem dL_law_1367 : decode cL_law 1367 = .ok (.iload 6, 2) := by decide +kernel
theorem dL_law_1369 : decode cL_law 1369 = .ok (.ifCond .eq 7, 3) := by decide +kernel
theorem dL_law_1372 : decode cL_law 1372 = .ok (.lconst 1, 1) := by decide +kernel
theorem dL_law_1373 : decode cL_law 1373 = .ok (.goto 4, 3) := by decide +kernel
theorem dL_law_1376 : decode cL_law 1376 = .ok (.lconst 0, 1) := by decide +kernel
theorem dL_law_1377 : decode cL_law 1377 = .ok (.lcmp, 1) := by decide +kernel
theorem dL_law_1378 : decode cL_law 1378 = .ok (.ifCond .eq 5, 3) := by decide +kernel
theorem dL_law_1381 : decode cL_law 1381 = .ok (.iconst 0, 1) := by decide +kernel
theorem dL_law_1382 : decode cL_law 1382 = .ok (.ireturn, 1) := by decide +kernel
theorem dL_law_1383 : decode cL_law 1383 = .ok (.goto 413, 3) := by decide +kernel
theorem dL_law_1386 : decode cL_law 1386 = .ok (.aload_n 1, 1) := by decide +kernel
theorem dL_law_1387 : decode cL_law 1387 = .ok (.aload_n 0, 1) := by decide +kernel
theorem dL_law_1388 : decode cL_law 1388 = .ok (.iload 4, 2) := by decide +kernel
theorem dL_law_1390 : decode cL_law 1390 = .ok (.iconst 1, 1) := by decide +kernel
theorem dL_law_1391 : decode cL_law 1391 = .ok (.iadd, 1) := by decide +kernel
theorem dL_law_1392 : decode cL_law 1392 = .ok (.iaload, 1) := by decide +kernel
theorem dL_law_1393 : decode cL_law 1393 = .ok (.aload_n 3, 1) := by decide +kernel
theorem dL_law_1394 : decode cL_law 1394 = .ok (.invokestatic 190, 3) := by decide +kernel
theorem dL_law_1397 : decode cL_law 1397 = .ok (.istore 5, 2) := by decide +kernel
theorem dL_law_1399 : decode cL_law 1399 = .ok (.aload_n 2, 1) := by decide +kernel
theorem dL_law_1400 : decode cL_law 1400 = .ok (.aload_n 0, 1) := by decide +kernel
theorem dL_law_1401 : decode cL_law 1401 = .ok (.iload 4, 2) := by decide +kernel
theorem dL_law_1403 : decode cL_law 1403 = .ok (.iconst 1, 1) := by decide +kernel
theorem dL_law_1404 : decode cL_law 1404 = .ok (.iadd, 1) := by decide +kernel
theorem dL_law_1405 : decode cL_law 1405 = .ok (.iaload, 1) := by decide +kernel
theorem dL_law_1406 : decode cL_law 1406 = .ok (.invokevirtual 192, 3) := by decide +kernel
theorem dL_law_1409 : decode cL_law 1409 = .ok (.istore 6, 2) := by decide +kernel
theorem dL_law_1411 : decode cL_law 1411 = .ok (.aload_n 2, 1) := by decide +kernel
theorem dL_law_1412 : decode cL_law 1412 = .ok (.invokevirtual 101, 3) := by decide +kernel
theorem dL_law_1415 : decode cL_law 1415 = .ok (.iload 5, 2) := by decide +kernel
theorem dL_law_1417 : decode cL_law 1417 = .ok (.if_icmp .eq 5, 3) := by decide +kernel
theorem dL_law_1420 : decode cL_law 1420 = .ok (.iconst 0, 1) := by decide +kernel
theorem dL_law_1421 : decode cL_law 1421 = .ok (.ireturn, 1) := by decide +kernel
theorem dL_law_1422 : decode cL_law 1422 = .ok (.iload 5, 2) := by decide +kernel
theorem dL_law_1424 : decode cL_law 1424 = .ok (.ifCond .ne 22, 3) := by decide +kernel
theorem dL_law_1427 : decode cL_law 1427 = .ok (.aload_n 3, 1) := by decide +kernel
theorem dL_law_1428 : decode cL_law 1428 = .ok (.iconst 0, 1) := by decide +kernel
theorem dL_law_1429 : decode cL_law 1429 = .ok (.laload, 1) := by decide +kernel
theorem dL_law_1430 : decode cL_law 1430 = .ok (.iload 6, 2) := by decide +kernel
theorem dL_law_1432 : decode cL_law 1432 = .ok (.ifCond .eq 7, 3) := by decide +kernel
theorem dL_law_1435 : decode cL_law 1435 = .ok (.lconst 1, 1) := by decide +kernel
theorem dL_law_1436 : decode cL_law 1436 = .ok (.goto 4, 3) := by decide +kernel
theorem dL_law_1439 : decode cL_law 1439 = .ok (.lconst 0, 1) := by decide +kernel
theorem dL_law_1440 : decode cL_law 1440 = .ok (.lcmp, 1) := by decide +kernel
theorem dL_law_1441 : decode cL_law 1441 = .ok (.ifCond .eq 5, 3) := by decide +kernel
theorem dL_law_1444 : decode cL_law 1444 = .ok (.iconst 0, 1) := by decide +kernel
theorem dL_law_1445 : decode cL_law 1445 = .ok (.ireturn, 1) := by decide +kernel
theorem dL_law_1446 : decode cL_law 1446 = .ok (.goto 350, 3) := by decide +kernel
theorem dL_law_1449 : decode cL_law 1449 = .ok (.aload_n 1, 1) := by decide +kernel
theorem dL_law_1450 : decode cL_law 1450 = .ok (.aload_n 0, 1) := by decide +kernel
theorem dL_law_1451 : decode cL_law 1451 = .ok (.iload 4, 2) := by decide +kernel
theorem dL_law_1453 : decode cL_law 1453 = .ok (.iconst 1, 1) := by decide +kernel
theorem dL_law_1454 : decode cL_law 1454 = .ok (.iadd, 1) := by decide +kernel
theorem dL_law_1455 : decode cL_law 1455 = .ok (.iaload, 1) := by decide +kernel
theorem dL_law_1456 : decode cL_law 1456 = .ok (.aload_n 0, 1) := by decide +kernel
theorem dL_law_1457 : decode cL_law 1457 = .ok (.iload 4, 2) := by decide +kernel
theorem dL_law_1459 : decode cL_law 1459 = .ok (.iconst 2, 1) := by decide +kernel
theorem dL_law_1460 : decode cL_law 1460 = .ok (.iadd, 1) := by decide +kernel
theorem dL_law_1461 : decode cL_law 1461 = .ok (.iaload, 1) := by decide +kernel
theorem dL_law_1462 : decode cL_law 1462 = .ok (.aload_n 3, 1) := by decide +kernel
theorem dL_law_1463 : decode cL_law 1463 = .ok (.invokestatic 193, 3) := by decide +kernel
theorem dL_law_1466 : decode cL_law 1466 = .ok (.istore 5, 2) := by decide +kernel
theorem dL_law_1468 : decode cL_law 1468 = .ok (.aload_n 2, 1) := by decide +kernel
theorem dL_law_1469 : decode cL_law 1469 = .ok (.aload_n 0, 1) := by decide +kernel
theorem dL_law_1470 : decode cL_law 1470 = .ok (.iload 4, 2) := by decide +kernel
theorem dL_law_1472 : decode cL_law 1472 = .ok (.iconst 1, 1) := by decide +kernel
theorem dL_law_1473 : decode cL_law 1473 = .ok (.iadd, 1) := by decide +kernel
theorem dL_law_1474 : decode cL_law 1474 = .ok (.iaload, 1) := by decide +kernel
theorem dL_law_1475 : decode cL_law 1475 = .ok (.aload_n 0, 1) := by decide +kernel
theorem dL_law_1476 : decode cL_law 1476 = .ok (.iload 4, 2) := by decide +kernel
theorem dL_law_1478 : decode cL_law 1478 = .ok (.iconst 2, 1) := by decide +kernel
theorem dL_law_1479 : decode cL_law 1479 = .ok (.iadd, 1) := by decide +kernel
theorem dL_law_1480 : decode cL_law 1480 = .ok (.iaload, 1) := by decide +kernel
theorem dL_law_1481 : decode cL_law 1481 = .ok (.invokevirtual 195, 3) := by decide +kernel
theorem dL_law_1484 : decode cL_law 1484 = .ok (.istore 6, 2) := by decide +kernel
theorem dL_law_1486 : decode cL_law 1486 = .ok (.aload_n 2, 1) := by decide +kernel
theorem dL_law_1487 : decode cL_law 1487 = .ok (.invokevirtual 101, 3) := by decide +kernel
theorem dL_law_1490 : decode cL_law 1490 = .ok (.iload 5, 2) := by decide +kernel
theorem dL_law_1492 : decode cL_law 1492 = .ok (.if_icmp .eq 5, 3) := by decide +kernel
theorem dL_law_1495 : decode cL_law 1495 = .ok (.iconst 0, 1) := by decide +kernel
theorem dL_law_1496 : decode cL_law 1496 = .ok (.ireturn, 1) := by decide +kernel
theorem dL_law_1497 : decode cL_law 1497 = .ok (.iload 5, 2) := by decide +kernel
theorem dL_law_1499 : decode cL_law 1499 = .ok (.ifCond .ne 15, 3) := by decide +kernel
theorem dL_law_1502 : decode cL_law 1502 = .ok (.aload_n 3, 1) := by decide +kernel
theorem dL_law_1503 : decode cL_law 1503 = .ok (.iconst 0, 1) := by decide +kernel
theorem dL_law_1504 : decode cL_law 1504 = .ok (.laload, 1) := by decide +kernel
theorem dL_law_1505 : decode cL_law 1505 = .ok (.iload 6, 2) := by decide +kernel
theorem dL_law_1507 : decode cL_law 1507 = .ok (.i2l, 1) := by decide +kernel
theorem dL_law_1508 : decode cL_law 1508 = .ok (.lcmp, 1) := by decide +kernel
theorem dL_law_1509 : decode cL_law 1509 = .ok (.ifCond .eq 5, 3) := by decide +kernel
theorem dL_law_1512 : decode cL_law 1512 = .ok (.iconst 0, 1) := by decide +kernel
theorem dL_law_1513 : decode cL_law 1513 = .ok (.ireturn, 1) := by decide +kernel
theorem dL_law_1514 : decode cL_law 1514 = .ok (.goto 282, 3) := by decide +kernel
theorem dL_law_1517 : decode cL_law 1517 = .ok (.aload_n 1, 1) := by decide +kernel
theorem dL_law_1518 : decode cL_law 1518 = .ok (.aload_n 0, 1) := by decide +kernel
theorem dL_law_1519 : decode cL_law 1519 = .ok (.iload 4, 2) := by decide +kernel
theorem dL_law_1521 : decode cL_law 1521 = .ok (.iconst 1, 1) := by decide +kernel
theorem dL_law_1522 : decode cL_law 1522 = .ok (.iadd, 1) := by decide +kernel
theorem dL_law_1523 : decode cL_law 1523 = .ok (.iaload, 1) := by decide +kernel
theorem dL_law_1524 : decode cL_law 1524 = .ok (.aload_n 3, 1) := by decide +kernel
theorem dL_law_1525 : decode cL_law 1525 = .ok (.invokestatic 196, 3) := by decide +kernel
theorem dL_law_1528 : decode cL_law 1528 = .ok (.istore 5, 2) := by decide +kernel
theorem dL_law_1530 : decode cL_law 1530 = .ok (.aload_n 2, 1) := by decide +kernel
theorem dL_law_1531 : decode cL_law 1531 = .ok (.aload_n 0, 1) := by decide +kernel
theorem dL_law_1532 : decode cL_law 1532 = .ok (.iload 4, 2) := by decide +kernel
theorem dL_law_1534 : decode cL_law 1534 = .ok (.iconst 1, 1) := by decide +kernel
theorem dL_law_1535 : decode cL_law 1535 = .ok (.iadd, 1) := by decide +kernel
theorem dL_law_1536 : decode cL_law 1536 = .ok (.iaload, 1) := by decide +kernel
theorem dL_law_1537 : decode cL_law 1537 = .ok (.invokevirtual 198, 3) := by decide +kernel
theorem dL_law_1540 : decode cL_law 1540 = .ok (.istore 6, 2) := by decide +kernel
theorem dL_law_1542 : decode cL_law 1542 = .ok (.aload_n 2, 1) := by decide +kernel
theorem dL_law_1543 : decode cL_law 1543 = .ok (.invokevirtual 101, 3) := by decide +kernel
theorem dL_law_1546 : decode cL_law 1546 = .ok (.iload 5, 2) := by decide +kernel
theorem dL_law_1548 : decode cL_law 1548 = .ok (.if_icmp .eq 5, 3) := by decide +kernel
theorem dL_law_1551 : decode cL_law 1551 = .ok (.iconst 0, 1) := by decide +kernel
theorem dL_law_1552 : decode cL_law 1552 = .ok (.ireturn, 1) := by decide +kernel
theorem dL_law_1553 : decode cL_law 1553 = .ok (.iload 5, 2) := by decide +kernel
theorem dL_law_1555 : decode cL_law 1555 = .ok (.ifCond .ne 15, 3) := by decide +kernel
theorem dL_law_1558 : decode cL_law 1558 = .ok (.aload_n 3, 1) := by decide +kernel
theorem dL_law_1559 : decode cL_law 1559 = .ok (.iconst 0, 1) := by decide +kernel
theorem dL_law_1560 : decode cL_law 1560 = .ok (.laload, 1) := by decide +kernel
theorem dL_law_1561 : decode cL_law 1561 = .ok (.iload 6, 2) := by decide +kernel
theorem dL_law_1563 : decode cL_law 1563 = .ok (.i2l, 1) := by decide +kernel
theorem dL_law_1564 : decode cL_law 1564 = .ok (.lcmp, 1) := by decide +kernel
theorem dL_law_1565 : decode cL_law 1565 = .ok (.ifCond .eq 5, 3) := by decide +kernel
theorem dL_law_1568 : decode cL_law 1568 = .ok (.iconst 0, 1) := by decide +kernel
theorem dL_law_1569 : decode cL_law 1569 = .ok (.ireturn, 1) := by decide +kernel
theorem dL_law_1570 : decode cL_law 1570 = .ok (.goto 226, 3) := by decide +kernel
theorem dL_law_1573 : decode cL_law 1573 = .ok (.aload_n 1, 1) := by decide +kernel
theorem dL_law_1574 : decode cL_law 1574 = .ok (.aload_n 0, 1) := by decide +kernel
theorem dL_law_1575 : decode cL_law 1575 = .ok (.iload 4, 2) := by decide +kernel
theorem dL_law_1577 : decode cL_law 1577 = .ok (.iconst 1, 1) := by decide +kernel
theorem dL_law_1578 : decode cL_law 1578 = .ok (.iadd, 1) := by decide +kernel
theorem dL_law_1579 : decode cL_law 1579 = .ok (.iaload, 1) := by decide +kernel
theorem dL_law_1580 : decode cL_law 1580 = .ok (.aload_n 3, 1) := by decide +kernel
theorem dL_law_1581 : decode cL_law 1581 = .ok (.invokestatic 199, 3) := by decide +kernel
theorem dL_law_1584 : decode cL_law 1584 = .ok (.istore 5, 2) := by decide +kernel
theorem dL_law_1586 : decode cL_law 1586 = .ok (.aload_n 2, 1) := by decide +kernel
theorem dL_law_1587 : decode cL_law 1587 = .ok (.aload_n 0, 1) := by decide +kernel
theorem dL_law_1588 : decode cL_law 1588 = .ok (.iload 4, 2) := by decide +kernel
theorem dL_law_1590 : decode cL_law 1590 = .ok (.iconst 1, 1) := by decide +kernel
theorem dL_law_1591 : decode cL_law 1591 = .ok (.iadd, 1) := by decide +kernel
theorem dL_law_1592 : decode cL_law 1592 = .ok (.iaload, 1) := by decide +kernel
theorem dL_law_1593 : decode cL_law 1593 = .ok (.invokevirtual 201, 3) := by decide +kernel
theorem dL_law_1596 : decode cL_law 1596 = .ok (.istore 6, 2) := by decide +kernel
theorem dL_law_1598 : decode cL_law 1598 = .ok (.aload_n 2, 1) := by decide +kernel
theorem dL_law_1599 : decode cL_law 1599 = .ok (.invokevirtual 101, 3) := by decide +kernel
theorem dL_law_1602 : decode cL_law 1602 = .ok (.iload 5, 2) := by decide +kernel
theorem dL_law_1604 : decode cL_law 1604 = .ok (.if_icmp .eq 5, 3) := by decide +kernel
theorem dL_law_1607 : decode cL_law 1607 = .ok (.iconst 0, 1) := by decide +kernel
theorem dL_law_1608 : decode cL_law 1608 = .ok (.ireturn, 1) := by decide +kernel
theorem dL_law_1609 : decode cL_law 1609 = .ok (.iload 5, 2) := by decide +kernel
theorem dL_law_1611 : decode cL_law 1611 = .ok (.ifCond .ne 15, 3) := by decide +kernel
theorem dL_law_1614 : decode cL_law 1614 = .ok (.aload_n 3, 1) := by decide +kernel
theorem dL_law_1615 : decode cL_law 1615 = .ok (.iconst 0, 1) := by decide +kernel
theorem dL_law_1616 : decode cL_law 1616 = .ok (.laload, 1) := by decide +kernel
theorem dL_law_1617 : decode cL_law 1617 = .ok (.iload 6, 2) := by decide +kernel
theorem dL_law_1619 : decode cL_law 1619 = .ok (.i2l, 1) := by decide +kernel
theorem dL_law_1620 : decode cL_law 1620 = .ok (.lcmp, 1) := by decide +kernel
theorem dL_law_1621 : decode cL_law 1621 = .ok (.ifCond .eq 5, 3) := by decide +kernel
theorem dL_law_1624 : decode cL_law 1624 = .ok (.iconst 0, 1) := by decide +kernel
theorem dL_law_1625 : decode cL_law 1625 = .ok (.ireturn, 1) := by decide +kernel
theorem dL_law_1626 : decode cL_law 1626 = .ok (.goto 170, 3) := by decide +kernel
theorem dL_law_1629 : decode cL_law 1629 = .ok (.aload_n 1, 1) := by decide +kernel
theorem dL_law_1630 : decode cL_law 1630 = .ok (.aload_n 0, 1) := by decide +kernel
theorem dL_law_1631 : decode cL_law 1631 = .ok (.iload 4, 2) := by decide +kernel
theorem dL_law_1633 : decode cL_law 1633 = .ok (.iconst 1, 1) := by decide +kernel
theorem dL_law_1634 : decode cL_law 1634 = .ok (.iadd, 1) := by decide +kernel
theorem dL_law_1635 : decode cL_law 1635 = .ok (.iaload, 1) := by decide +kernel
theorem dL_law_1636 : decode cL_law 1636 = .ok (.aload_n 3, 1) := by decide +kernel
theorem dL_law_1637 : decode cL_law 1637 = .ok (.invokestatic 202, 3) := by decide +kernel
theorem dL_law_1640 : decode cL_law 1640 = .ok (.istore 5, 2) := by decide +kernel
theorem dL_law_1642 : decode cL_law 1642 = .ok (.aload_n 2, 1) := by decide +kernel
theorem dL_law_1643 : decode cL_law 1643 = .ok (.aload_n 0, 1) := by decide +kernel
theorem dL_law_1644 : decode cL_law 1644 = .ok (.iload 4, 2) := by decide +kernel
theorem dL_law_1646 : decode cL_law 1646 = .ok (.iconst 1, 1) := by decide +kernel
theorem dL_law_1647 : decode cL_law 1647 = .ok (.iadd, 1) := by decide +kernel
theorem dL_law_1648 : decode cL_law 1648 = .ok (.iaload, 1) := by decide +kernel
theorem dL_law_1649 : decode cL_law 1649 = .ok (.invokevirtual 204, 3) := by decide +kernel
theorem dL_law_1652 : decode cL_law 1652 = .ok (.istore 6, 2) := by decide +kernel
theorem dL_law_1654 : decode cL_law 1654 = .ok (.aload_n 2, 1) := by decide +kernel
theorem dL_law_1655 : decode cL_law 1655 = .ok (.invokevirtual 101, 3) := by decide +kernel
theorem dL_law_1658 : decode cL_law 1658 = .ok (.iload 5, 2) := by decide +kernel
theorem dL_law_1660 : decode cL_law 1660 = .ok (.if_icmp .eq 5, 3) := by decide +kernel
theorem dL_law_1663 : decode cL_law 1663 = .ok (.iconst 0, 1) := by decide +kernel
theorem dL_law_1664 : decode cL_law 1664 = .ok (.ireturn, 1) := by decide +kernel
theorem dL_law_1665 : decode cL_law 1665 = .ok (.iload 5, 2) := by decide +kernel
theorem dL_law_1667 : decode cL_law 1667 = .ok (.ifCond .ne 15, 3) := by decide +kernel
theorem dL_law_1670 : decode cL_law 1670 = .ok (.aload_n 3, 1) := by decide +kernel
theorem dL_law_1671 : decode cL_law 1671 = .ok (.iconst 0, 1) := by decide +kernel
theorem dL_law_1672 : decode cL_law 1672 = .ok (.laload, 1) := by decide +kernel
theorem dL_law_1673 : decode cL_law 1673 = .ok (.iload 6, 2) := by decide +kernel
theorem dL_law_1675 : decode cL_law 1675 = .ok (.i2l, 1) := by decide +kernel
theorem dL_law_1676 : decode cL_law 1676 = .ok (.lcmp, 1) := by decide +kernel
theorem dL_law_1677 : decode cL_law 1677 = .ok (.ifCond .eq 5, 3) := by decide +kernel
theorem dL_law_1680 : decode cL_law 1680 = .ok (.iconst 0, 1) := by decide +kernel
theorem dL_law_1681 : decode cL_law 1681 = .ok (.ireturn, 1) := by decide +kernel
theorem dL_law_1682 : decode cL_law 1682 = .ok (.goto 114, 3) := by decide +kernel
theorem dL_law_1685 : decode cL_law 1685 = .ok (.aload_n 1, 1) := by decide +kernel
theorem dL_law_1686 : decode cL_law 1686 = .ok (.aload_n 0, 1) := by decide +kernel
theorem dL_law_1687 : decode cL_law 1687 = .ok (.iload 4, 2) := by decide +kernel
theorem dL_law_1689 : decode cL_law 1689 = .ok (.iconst 1, 1) := by decide +kernel
theorem dL_law_1690 : decode cL_law 1690 = .ok (.iadd, 1) := by decide +kernel
theorem dL_law_1691 : decode cL_law 1691 = .ok (.iaload, 1) := by decide +kernel
theorem dL_law_1692 : decode cL_law 1692 = .ok (.aload_n 3, 1) := by decide +kernel
theorem dL_law_1693 : decode cL_law 1693 = .ok (.invokestatic 205, 3) := by decide +kernel
theorem dL_law_1696 : decode cL_law 1696 = .ok (.istore 5, 2) := by decide +kernel
theorem dL_law_1698 : decode cL_law 1698 = .ok (.aload_n 2, 1) := by decide +kernel
theorem dL_law_1699 : decode cL_law 1699 = .ok (.aload_n 0, 1) := by decide +kernel
theorem dL_law_1700 : decode cL_law 1700 = .ok (.iload 4, 2) := by decide +kernel
theorem dL_law_1702 : decode cL_law 1702 = .ok (.iconst 1, 1) := by decide +kernel
theorem dL_law_1703 : decode cL_law 1703 = .ok (.iadd, 1) := by decide +kernel
theorem dL_law_1704 : decode cL_law 1704 = .ok (.iaload, 1) := by decide +kernel
theorem dL_law_1705 : decode cL_law 1705 = .ok (.invokevirtual 207, 3) := by decide +kernel
theorem dL_law_1708 : decode cL_law 1708 = .ok (.istore 6, 2) := by decide +kernel
theorem dL_law_1710 : decode cL_law 1710 = .ok (.aload_n 2, 1) := by decide +kernel
theorem dL_law_1711 : decode cL_law 1711 = .ok (.invokevirtual 101, 3) := by decide +kernel
theorem dL_law_1714 : decode cL_law 1714 = .ok (.iload 5, 2) := by decide +kernel
theorem dL_law_1716 : decode cL_law 1716 = .ok (.if_icmp .eq 5, 3) := by decide +kernel
theorem dL_law_1719 : decode cL_law 1719 = .ok (.iconst 0, 1) := by decide +kernel
theorem dL_law_1720 : decode cL_law 1720 = .ok (.ireturn, 1) := by decide +kernel
theorem dL_law_1721 : decode cL_law 1721 = .ok (.iload 5, 2) := by decide +kernel
theorem dL_law_1723 : decode cL_law 1723 = .ok (.ifCond .ne 15, 3) := by decide +kernel
theorem dL_law_1726 : decode cL_law 1726 = .ok (.aload_n 3, 1) := by decide +kernel
theorem dL_law_1727 : decode cL_law 1727 = .ok (.iconst 0, 1) := by decide +kernel
theorem dL_law_1728 : decode cL_law 1728 = .ok (.laload, 1) := by decide +kernel
theorem dL_law_1729 : decode cL_law 1729 = .ok (.iload 6, 2) := by decide +kernel
theorem dL_law_1731 : decode cL_law 1731 = .ok (.i2l, 1) := by decide +kernel
theorem dL_law_1732 : decode cL_law 1732 = .ok (.lcmp, 1) := by decide +kernel
theorem dL_law_1733 : decode cL_law 1733 = .ok (.ifCond .eq 5, 3) := by decide +kernel
theorem dL_law_1736 : decode cL_law 1736 = .ok (.iconst 0, 1) := by decide +kernel
theorem dL_law_1737 : decode cL_law 1737 = .ok (.ireturn, 1) := by decide +kernel
theorem dL_law_1738 : decode cL_law 1738 = .ok (.goto 58, 3) := by decide +kernel
theorem dL_law_1741 : decode cL_law 1741 = .ok (.aload_n 1, 1) := by decide +kernel
theorem dL_law_1742 : decode cL_law 1742 = .ok (.invokevirtual 208, 3) := by decide +kernel
theorem dL_law_1745 : decode cL_law 1745 = .ok (.dstore 5, 2) := by decide +kernel
theorem dL_law_1747 : decode cL_law 1747 = .ok (.aload_n 2, 1) := by decide +kernel
theorem dL_law_1748 : decode cL_law 1748 = .ok (.invokevirtual 212, 3) := by decide +kernel
theorem dL_law_1751 : decode cL_law 1751 = .ok (.dstore 7, 2) := by decide +kernel
theorem dL_law_1753 : decode cL_law 1753 = .ok (.dload 5, 2) := by decide +kernel
theorem dL_law_1755 : decode cL_law 1755 = .ok (.dload 7, 2) := by decide +kernel
theorem dL_law_1757 : decode cL_law 1757 = .ok (.dcmp .l, 1) := by decide +kernel
theorem dL_law_1758 : decode cL_law 1758 = .ok (.ifCond .eq 21, 3) := by decide +kernel
theorem dL_law_1761 : decode cL_law 1761 = .ok (.dload 5, 2) := by decide +kernel
theorem dL_law_1763 : decode cL_law 1763 = .ok (.dload 5, 2) := by decide +kernel
theorem dL_law_1765 : decode cL_law 1765 = .ok (.dcmp .l, 1) := by decide +kernel
theorem dL_law_1766 : decode cL_law 1766 = .ok (.ifCond .eq 11, 3) := by decide +kernel
theorem dL_law_1769 : decode cL_law 1769 = .ok (.dload 7, 2) := by decide +kernel
theorem dL_law_1771 : decode cL_law 1771 = .ok (.dload 7, 2) := by decide +kernel
theorem dL_law_1773 : decode cL_law 1773 = .ok (.dcmp .l, 1) := by decide +kernel
theorem dL_law_1774 : decode cL_law 1774 = .ok (.ifCond .ne 5, 3) := by decide +kernel
theorem dL_law_1777 : decode cL_law 1777 = .ok (.iconst 0, 1) := by decide +kernel
theorem dL_law_1778 : decode cL_law 1778 = .ok (.ireturn, 1) := by decide +kernel
theorem dL_law_1779 : decode cL_law 1779 = .ok (.goto 17, 3) := by decide +kernel
theorem dL_law_1782 : decode cL_law 1782 = .ok (.aload_n 1, 1) := by decide +kernel
theorem dL_law_1783 : decode cL_law 1783 = .ok (.invokevirtual 213, 3) := by decide +kernel
theorem dL_law_1786 : decode cL_law 1786 = .ok (.aload_n 2, 1) := by decide +kernel
theorem dL_law_1787 : decode cL_law 1787 = .ok (.invokevirtual 217, 3) := by decide +kernel
theorem dL_law_1790 : decode cL_law 1790 = .ok (.lcmp, 1) := by decide +kernel
theorem dL_law_1791 : decode cL_law 1791 = .ok (.ifCond .eq 5, 3) := by decide +kernel
theorem dL_law_1794 : decode cL_law 1794 = .ok (.iconst 0, 1) := by decide +kernel
theorem dL_law_1795 : decode cL_law 1795 = .ok (.ireturn, 1) := by decide +kernel
theorem dL_law_1796 : decode cL_law 1796 = .ok (.iinc 4 5, 3) := by decide +kernel
theorem dL_law_1799 : decode cL_law 1799 = .ok (.goto (-1776), 3) := by decide +kernel
theorem dL_law_1802 : decode cL_law 1802 = .ok (.iconst 1, 1) := by decide +kernel
theorem dL_law_1803 : decode cL_law 1803 = .ok (.ireturn, 1) := by decide +kernel
