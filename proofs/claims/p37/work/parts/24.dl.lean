theorem zz_gc {big a : List Cond} {c : Cond} (h : GoodIn big [c]) (ha : GoodIn big a) : GoodIn big (c :: a) := fun w hw => (List.mem_cons.mp hw).elim (fun q => h w (by rw [q]; exact List.mem_singleton.mpr rfl)) (ha w)
theorem inlX1 : ∀ w ∈ wsX10, w ∈ wsL_law := fun _ h => List.mem_append_left _ (List.mem_append_left _ (List.mem_append_left _ (List.mem_append_left _ (List.mem_append_left _ (List.mem_append_left _ (List.mem_append_right _ h))))))
theorem inlX2 : ∀ w ∈ wsX20, w ∈ wsL_law := fun _ h => List.mem_append_left _ (List.mem_append_left _ (List.mem_append_left _ (List.mem_append_left _ (List.mem_append_left _ (List.mem_append_right _ h)))))
theorem inlX3 : ∀ w ∈ wsX30, w ∈ wsL_law := fun _ h => List.mem_append_left _ (List.mem_append_left _ (List.mem_append_left _ (List.mem_append_left _ (List.mem_append_right _ h))))
theorem inlX4 : ∀ w ∈ wsX40, w ∈ wsL_law := fun _ h => List.mem_append_left _ (List.mem_append_left _ (List.mem_append_left _ (List.mem_append_left _ (List.mem_append_left _ (List.mem_append_left _ (List.mem_append_left _ (List.mem_append_left _ (List.mem_append_right _ h))))))))
theorem inlX5 : ∀ w ∈ wsX50, w ∈ wsL_law := fun _ h => List.mem_append_left _ (List.mem_append_left _ (List.mem_append_left _ (List.mem_append_left _ (List.mem_append_left _ (List.mem_append_left _ (List.mem_append_left _ (List.mem_append_right _ h)))))))
theorem dL_below_0 : decode cL_below 0 = .ok (.iload_n 0, 1) := by decide +kernel
theorem dL_below_1 : decode cL_below 1 = .ok (.ldc 7, 2) := by decide +kernel
theorem dL_below_3 : decode cL_below 3 = .ok (.iand, 1) := by decide +kernel
theorem dL_below_4 : decode cL_below 4 = .ok (.iload_n 1, 1) := by decide +kernel
theorem dL_below_5 : decode cL_below 5 = .ok (.irem, 1) := by decide +kernel
theorem dL_below_6 : decode cL_below 6 = .ok (.ireturn, 1) := by decide +kernel
theorem dL_cell_0 : decode cL_cell 0 = .ok (.iload_n 1, 1) := by decide +kernel
theorem dL_cell_1 : decode cL_cell 1 = .ok (.aload_n 0, 1) := by decide +kernel
theorem dL_cell_2 : decode cL_cell 2 = .ok (.arraylength, 1) := by decide +kernel
theorem dL_cell_3 : decode cL_cell 3 = .ok (.if_icmp .ge 9, 3) := by decide +kernel
theorem dL_cell_6 : decode cL_cell 6 = .ok (.aload_n 0, 1) := by decide +kernel
theorem dL_cell_7 : decode cL_cell 7 = .ok (.iload_n 1, 1) := by decide +kernel
theorem dL_cell_8 : decode cL_cell 8 = .ok (.iaload, 1) := by decide +kernel
theorem dL_cell_9 : decode cL_cell 9 = .ok (.goto 9, 3) := by decide +kernel
theorem dL_cell_12 : decode cL_cell 12 = .ok (.ldc 8, 2) := by decide +kernel
theorem dL_cell_14 : decode cL_cell 14 = .ok (.iload_n 1, 1) := by decide +kernel
theorem dL_cell_15 : decode cL_cell 15 = .ok (.iconst 3, 1) := by decide +kernel
theorem dL_cell_16 : decode cL_cell 16 = .ok (.iadd, 1) := by decide +kernel
theorem dL_cell_17 : decode cL_cell 17 = .ok (.imul, 1) := by decide +kernel
theorem dL_cell_18 : decode cL_cell 18 = .ok (.ireturn, 1) := by decide +kernel
set_option maxRecDepth 20000 in
theorem ggL_act_L_below : GoodIn wsL_act wsL_below := goodIn_r _ [14, 15] (by decide +kernel) (by decide +kernel)
set_option maxRecDepth 20000 in
theorem gL_act_L_below : GoodIn wsL_act (va_wsS RL 15 yL_below wsL_below) := goodIn_app (goodIn_of _ (by decide +kernel)) ggL_act_L_below
set_option maxRecDepth 20000 in
theorem ggL_act_X5_with : GoodIn wsL_act wsX5_with := goodIn_r _ [19, 20] (by decide +kernel) (by decide +kernel)
set_option maxRecDepth 20000 in
theorem gL_act_X5_with : GoodIn wsL_act (va_wsS RL 21 yX5_with wsX5_with) := goodIn_app (goodIn_of _ (by decide +kernel)) ggL_act_X5_with
set_option maxRecDepth 20000 in
theorem ggL_act_X4_addRuin : GoodIn wsL_act wsX4_addRuin := goodIn_ca (goodIn_ca (goodIn_r _ [25, 26, 27, 28, 29, 30, 31, 32, 33, 34, 24, 35, 36, 37, 38, 39, 40, 41, 42, 43, 44, 45, 216, 217, 218, 219, 220, 221, 222, 223, 224, 225, 226, 227, 228, 229] (by decide +kernel) (by decide +kernel)) (goodIn_sub (fun _ h => List.mem_cons_of_mem _ (List.mem_append_left _ (List.mem_append_left _ (List.mem_append_right _ h)))) (by decide +kernel))) (goodIn_sub (fun _ h => List.mem_cons_of_mem _ (List.mem_append_left _ (List.mem_append_right _ h))) (by decide +kernel))
set_option maxRecDepth 20000 in
theorem gL_act_X4_addRuin : GoodIn wsL_act (wsV RL 25 RX4 yX4_addRuin wsX4_addRuin) := goodIn_app (goodIn_of _ (by decide +kernel)) ggL_act_X4_addRuin
set_option maxRecDepth 20000 in
theorem ggL_act_X4_cutIvy : GoodIn wsL_act wsX4_cutIvy := goodIn_ca (goodIn_ca (goodIn_r _ [49, 26, 27, 30, 31, 50, 51, 52, 53, 24, 54, 55, 56, 57, 58, 59, 39, 60, 41, 33, 34, 35, 61, 62, 63, 64, 43, 65, 4, 5, 6, 216, 217, 218, 219, 220, 221, 222, 223, 224, 225, 226, 227, 228, 229] (by decide +kernel) (by decide +kernel)) (goodIn_sub (fun _ h => List.mem_cons_of_mem _ (List.mem_append_left _ (List.mem_append_left _ (List.mem_append_right _ h)))) (by decide +kernel))) (goodIn_sub (fun _ h => List.mem_cons_of_mem _ (List.mem_append_right _ h)) (by decide +kernel))
set_option maxRecDepth 20000 in
theorem gL_act_X4_cutIvy : GoodIn wsL_act (wsV RL 36 RX4 yX4_cutIvy wsX4_cutIvy) := goodIn_app (goodIn_of _ (by decide +kernel)) ggL_act_X4_cutIvy
set_option maxRecDepth 20000 in
theorem ggL_act_X4_prop : GoodIn wsL_act wsX4_prop := goodIn_ca (goodIn_ca (goodIn_r _ [69, 28, 29, 30, 31, 70, 71, 51, 52, 53, 24, 54, 55, 56, 57, 58, 59, 39, 60, 41, 72, 73, 74, 75, 42, 76, 216, 217, 218, 219, 220, 221, 222, 223, 224, 225, 226, 227, 228, 229] (by decide +kernel) (by decide +kernel)) (goodIn_sub (fun _ h => List.mem_cons_of_mem _ (List.mem_append_left _ (List.mem_append_right _ h))) (by decide +kernel))) (goodIn_sub (fun _ h => List.mem_cons_of_mem _ (List.mem_append_right _ h)) (by decide +kernel))
set_option maxRecDepth 20000 in
theorem gL_act_X4_prop : GoodIn wsL_act (wsV RL 43 RX4 yX4_prop wsX4_prop) := goodIn_app (goodIn_of _ (by decide +kernel)) ggL_act_X4_prop
set_option maxRecDepth 20000 in
theorem ggL_act_X4_setPrice : GoodIn wsL_act wsX4_setPrice := goodIn_ca (goodIn_ca (goodIn_r _ [80, 26, 27, 30, 31, 81, 51, 52, 53, 24, 54, 55, 56, 57, 58, 59, 39, 60, 41, 33, 34, 35, 216, 217, 218, 219, 220, 221, 222, 223, 224, 225, 226, 227, 228, 229] (by decide +kernel) (by decide +kernel)) (goodIn_sub (fun _ h => List.mem_cons_of_mem _ (List.mem_append_left _ (List.mem_append_left _ (List.mem_append_right _ h)))) (by decide +kernel))) (goodIn_sub (fun _ h => List.mem_cons_of_mem _ (List.mem_append_right _ h)) (by decide +kernel))
set_option maxRecDepth 20000 in
theorem gL_act_X4_setPrice : GoodIn wsL_act (wsV RL 47 RX4 yX4_setPrice wsX4_setPrice) := goodIn_app (goodIn_of _ (by decide +kernel)) ggL_act_X4_setPrice
set_option maxRecDepth 20000 in
theorem ggL_act_X4_setGuests : GoodIn wsL_act wsX4_setGuests := goodIn_ca (goodIn_r _ [85, 26, 27, 30, 86, 33, 34, 24, 35, 216, 217, 218, 219, 220, 221, 222] (by decide +kernel) (by decide +kernel)) (goodIn_sub (fun _ h => List.mem_cons_of_mem _ (List.mem_append_left _ (List.mem_append_left _ (List.mem_append_right _ h)))) (by decide +kernel))
set_option maxRecDepth 20000 in
theorem gL_act_X4_setGuests : GoodIn wsL_act (wsV RL 53 RX4 yX4_setGuests wsX4_setGuests) := goodIn_app (goodIn_of _ (by decide +kernel)) ggL_act_X4_setGuests
set_option maxRecDepth 20000 in
theorem ggL_act_X4_sellTicket : GoodIn wsL_act wsX4_sellTicket := goodIn_ca (goodIn_ca (goodIn_ca (goodIn_r _ [90, 26, 27, 28, 29, 30, 31, 91, 92, 81, 71, 93, 51, 52, 53, 24, 54, 55, 56, 57, 58, 59, 39, 60, 41, 33, 34, 35, 72, 73, 74, 75, 42, 76, 94, 95, 96, 97, 98, 99, 100, 101, 102, 103, 216, 217, 218, 219, 220, 221, 222, 230, 231, 232, 233, 234, 223, 224, 225, 226, 227, 228, 229] (by decide +kernel) (by decide +kernel)) (goodIn_sub (fun _ h => List.mem_cons_of_mem _ (List.mem_append_left _ (List.mem_append_left _ (List.mem_append_right _ h)))) (by decide +kernel))) (goodIn_sub (fun _ h => List.mem_cons_of_mem _ (List.mem_append_left _ (List.mem_append_right _ h))) (by decide +kernel))) (goodIn_sub (fun _ h => List.mem_cons_of_mem _ (List.mem_append_right _ h)) (by decide +kernel))
set_option maxRecDepth 20000 in
theorem gL_act_X4_sellTicket : GoodIn wsL_act (wsV RL 62 RX4 yX4_sellTicket wsX4_sellTicket) := goodIn_app (goodIn_of _ (by decide +kernel)) ggL_act_X4_sellTicket
set_option maxRecDepth 20000 in
theorem gq_wsL_act_wsX4_pass_1 : GoodIn wsL_act ([.code yX4_pass cX4_pass 3 (some .int)] : List Cond) := goodIn_p ([.code yX4_pass cX4_pass 3 (some .int)] : List Cond) [107] rfl (by decide +kernel)
set_option maxRecDepth 20000 in
theorem gq_wsL_act_wsX4_pass_2 : GoodIn wsL_act wsX4_pass_r1 := goodIn_p wsX4_pass_r1 [110, 35, 115, 123] rfl (by decide +kernel)
set_option maxRecDepth 20000 in
theorem gq_wsL_act_wsX4_pass_3 : GoodIn wsL_act wsX4_pass_r2 := goodIn_p wsX4_pass_r2 [130, 133, 137, 143] rfl (by decide +kernel)
set_option maxRecDepth 20000 in
theorem gq_wsL_act_wsX4_pass_4 : GoodIn wsL_act wsX4_pass_r3 := goodIn_p wsX4_pass_r3 [147, 151, 155, 159, 164] rfl (by decide +kernel)
set_option maxRecDepth 20000 in
theorem gq_wsL_act_wsX4_pass_5 : GoodIn wsL_act wsX4_pass_r4 := goodIn_p wsX4_pass_r4 [75, 60, 169, 173] rfl (by decide +kernel)
set_option maxRecDepth 20000 in
theorem gq_wsL_act_wsX4_pass_6 : GoodIn wsL_act wsX4_pass_r5 := goodIn_p wsX4_pass_r5 [177, 182] rfl (by decide +kernel)
set_option maxRecDepth 20000 in
theorem gq_wsL_act_wsX4_pass_7 : GoodIn wsL_act wsX40 := goodIn_p wsX40 [] rfl (by decide +kernel)
set_option maxRecDepth 20000 in
theorem gq_wsL_act_wsX4_pass_8 : GoodIn wsL_act wsX10 := goodIn_p wsX10 [] rfl (by decide +kernel)
set_option maxRecDepth 20000 in
theorem gq_wsL_act_wsX4_pass_9 : GoodIn wsL_act wsX20 := goodIn_p wsX20 [] rfl (by decide +kernel)
set_option maxRecDepth 20000 in
theorem gq_wsL_act_wsX4_pass_10 : GoodIn wsL_act wsX30 := goodIn_p wsX30 [] rfl (by decide +kernel)
set_option maxRecDepth 20000 in
theorem ggL_act_X4_pass : GoodIn wsL_act wsX4_pass := goodIn_ca (zz_gc gq_wsL_act_wsX4_pass_1 (goodIn_app (goodIn_app (goodIn_app (goodIn_app (goodIn_app gq_wsL_act_wsX4_pass_2 (goodIn_app gq_wsL_act_wsX4_pass_3 (goodIn_app gq_wsL_act_wsX4_pass_4 (goodIn_app gq_wsL_act_wsX4_pass_5 gq_wsL_act_wsX4_pass_6)))) gq_wsL_act_wsX4_pass_7) gq_wsL_act_wsX4_pass_8) gq_wsL_act_wsX4_pass_9) gq_wsL_act_wsX4_pass_10)) (goodIn_sub (fun _ h => List.mem_cons_of_mem _ (List.mem_append_left _ (List.mem_append_left _ (List.mem_append_right _ h)))) (by decide +kernel))
set_option maxRecDepth 20000 in
theorem gL_act_X4_pass : GoodIn wsL_act (wsV RL 65 RX4 yX4_pass wsX4_pass) := goodIn_app (goodIn_of _ (by decide +kernel)) ggL_act_X4_pass
set_option maxRecDepth 20000 in
theorem ggL_act_X5_behind : GoodIn wsL_act wsX5_behind := goodIn_r _ [186, 187, 188, 189, 18, 190, 191, 192, 193, 194, 195, 196, 197, 198, 199, 2, 200, 201, 202, 203, 204, 205, 206, 207, 208, 209, 210, 211, 212, 213, 214, 215] (by decide +kernel) (by decide +kernel)
set_option maxRecDepth 20000 in
theorem gL_act_X5_behind : GoodIn wsL_act (wsV RL 68 RX5 yX5_behind wsX5_behind) := goodIn_app (goodIn_of _ (by decide +kernel)) ggL_act_X5_behind
theorem dL_act_0 : decode cL_act 0 = .ok (.aload_n 1, 1) := by decide +kernel
theorem dL_act_1 : decode cL_act 1 = .ok (.getfield 9, 3) := by decide +kernel
theorem dL_act_4 : decode cL_act 4 = .ok (.arraylength, 1) := by decide +kernel
theorem dL_act_5 : decode cL_act 5 = .ok (.istore_n 3, 1) := by decide +kernel
theorem dL_act_6 : decode cL_act 6 = .ok (.iload_n 2, 1) := by decide +kernel
theorem dL_act_7 : decode cL_act 7 = .ok (.bipush 9, 2) := by decide +kernel
theorem dL_act_9 : decode cL_act 9 = .ok (.ishr, 1) := by decide +kernel
theorem dL_act_10 : decode cL_act 10 = .ok (.bipush 18, 2) := by decide +kernel
theorem dL_act_12 : decode cL_act 12 = .ok (.invokestatic 15, 3) := by decide +kernel
theorem dL_act_15 : decode cL_act 15 = .ok (.istore 4, 2) := by decide +kernel
theorem dL_act_17 : decode cL_act 17 = .ok (.iload_n 3, 1) := by decide +kernel
theorem dL_act_18 : decode cL_act 18 = .ok (.ifCond .eq 9, 3) := by decide +kernel
theorem dL_act_21 : decode cL_act 21 = .ok (.iload 4, 2) := by decide +kernel
theorem dL_act_23 : decode cL_act 23 = .ok (.iconst 2, 1) := by decide +kernel
theorem dL_act_24 : decode cL_act 24 = .ok (.if_icmp .ge 118, 3) := by decide +kernel
theorem dL_act_27 : decode cL_act 27 = .ok (.iload_n 3, 1) := by decide +kernel
theorem dL_act_28 : decode cL_act 28 = .ok (.bipush 10, 2) := by decide +kernel
theorem dL_act_30 : decode cL_act 30 = .ok (.if_icmp .ne 5, 3) := by decide +kernel
theorem dL_act_33 : decode cL_act 33 = .ok (.iconst 1, 1) := by decide +kernel
theorem dL_act_34 : decode cL_act 34 = .ok (.ireturn, 1) := by decide +kernel
theorem dL_act_35 : decode cL_act 35 = .ok (.iconst 4, 1) := by decide +kernel
theorem dL_act_36 : decode cL_act 36 = .ok (.newarray .int, 2) := by decide +kernel
theorem dL_act_38 : decode cL_act 38 = .ok (.dup, 1) := by decide +kernel
theorem dL_act_39 : decode cL_act 39 = .ok (.iconst 0, 1) := by decide +kernel
theorem dL_act_40 : decode cL_act 40 = .ok (.iconst 1, 1) := by decide +kernel
theorem dL_act_41 : decode cL_act 41 = .ok (.iload_n 2, 1) := by decide +kernel
theorem dL_act_42 : decode cL_act 42 = .ok (.iconst 1, 1) := by decide +kernel
theorem dL_act_43 : decode cL_act 43 = .ok (.ishr, 1) := by decide +kernel
theorem dL_act_44 : decode cL_act 44 = .ok (.iload_n 2, 1) := by decide +kernel
theorem dL_act_45 : decode cL_act 45 = .ok (.iconst 2, 1) := by decide +kernel
theorem dL_act_46 : decode cL_act 46 = .ok (.invokestatic 15, 3) := by decide +kernel
theorem dL_act_49 : decode cL_act 49 = .ok (.ifCond .ne 8, 3) := by decide +kernel
theorem dL_act_52 : decode cL_act 52 = .ok (.bipush 20, 2) := by decide +kernel
theorem dL_act_54 : decode cL_act 54 = .ok (.goto 4, 3) := by decide +kernel
theorem dL_act_57 : decode cL_act 57 = .ok (.iconst 5, 1) := by decide +kernel
theorem dL_act_58 : decode cL_act 58 = .ok (.invokestatic 15, 3) := by decide +kernel
theorem dL_act_61 : decode cL_act 61 = .ok (.iadd, 1) := by decide +kernel
theorem dL_act_62 : decode cL_act 62 = .ok (.iastore, 1) := by decide +kernel
theorem dL_act_63 : decode cL_act 63 = .ok (.dup, 1) := by decide +kernel
theorem dL_act_64 : decode cL_act 64 = .ok (.iconst 1, 1) := by decide +kernel
theorem dL_act_65 : decode cL_act 65 = .ok (.iload_n 2, 1) := by decide +kernel
theorem dL_act_66 : decode cL_act 66 = .ok (.iconst 3, 1) := by decide +kernel
theorem dL_act_67 : decode cL_act 67 = .ok (.ishr, 1) := by decide +kernel
theorem dL_act_68 : decode cL_act 68 = .ok (.bipush 13, 2) := by decide +kernel
theorem dL_act_70 : decode cL_act 70 = .ok (.invokestatic 15, 3) := by decide +kernel
theorem dL_act_73 : decode cL_act 73 = .ok (.iastore, 1) := by decide +kernel
theorem dL_act_74 : decode cL_act 74 = .ok (.dup, 1) := by decide +kernel
theorem dL_act_75 : decode cL_act 75 = .ok (.iconst 2, 1) := by decide +kernel
theorem dL_act_76 : decode cL_act 76 = .ok (.iload_n 2, 1) := by decide +kernel
theorem dL_act_77 : decode cL_act 77 = .ok (.iconst 5, 1) := by decide +kernel
theorem dL_act_78 : decode cL_act 78 = .ok (.ishr, 1) := by decide +kernel
theorem dL_act_79 : decode cL_act 79 = .ok (.bipush 6, 2) := by decide +kernel
theorem dL_act_81 : decode cL_act 81 = .ok (.invokestatic 15, 3) := by decide +kernel
theorem dL_act_84 : decode cL_act 84 = .ok (.iastore, 1) := by decide +kernel
theorem dL_act_85 : decode cL_act 85 = .ok (.dup, 1) := by decide +kernel
theorem dL_act_86 : decode cL_act 86 = .ok (.iconst 3, 1) := by decide +kernel
theorem dL_act_87 : decode cL_act 87 = .ok (.iload_n 2, 1) := by decide +kernel
theorem dL_act_88 : decode cL_act 88 = .ok (.bipush 7, 2) := by decide +kernel
theorem dL_act_90 : decode cL_act 90 = .ok (.ishr, 1) := by decide +kernel
theorem dL_act_91 : decode cL_act 91 = .ok (.bipush 10, 2) := by decide +kernel
theorem dL_act_93 : decode cL_act 93 = .ok (.invokestatic 15, 3) := by decide +kernel
theorem dL_act_96 : decode cL_act 96 = .ok (.iastore, 1) := by decide +kernel
theorem dL_act_97 : decode cL_act 97 = .ok (.astore 5, 2) := by decide +kernel
theorem dL_act_99 : decode cL_act 99 = .ok (.aload_n 1, 1) := by decide +kernel
theorem dL_act_100 : decode cL_act 100 = .ok (.aload_n 1, 1) := by decide +kernel
theorem dL_act_101 : decode cL_act 101 = .ok (.getfield 9, 3) := by decide +kernel
theorem dL_act_104 : decode cL_act 104 = .ok (.aload 5, 2) := by decide +kernel
theorem dL_act_106 : decode cL_act 106 = .ok (.invokestatic 21, 3) := by decide +kernel
theorem dL_act_109 : decode cL_act 109 = .ok (.putfield 9, 3) := by decide +kernel
theorem dL_act_112 : decode cL_act 112 = .ok (.aload_n 0, 1) := by decide +kernel
theorem dL_act_113 : decode cL_act 113 = .ok (.aload 5, 2) := by decide +kernel
theorem dL_act_115 : decode cL_act 115 = .ok (.iconst 0, 1) := by decide +kernel
theorem dL_act_116 : decode cL_act 116 = .ok (.iaload, 1) := by decide +kernel
theorem dL_act_117 : decode cL_act 117 = .ok (.aload 5, 2) := by decide +kernel
theorem dL_act_119 : decode cL_act 119 = .ok (.iconst 1, 1) := by decide +kernel
theorem dL_act_120 : decode cL_act 120 = .ok (.iaload, 1) := by decide +kernel
theorem dL_act_121 : decode cL_act 121 = .ok (.aload 5, 2) := by decide +kernel
theorem dL_act_123 : decode cL_act 123 = .ok (.iconst 2, 1) := by decide +kernel
theorem dL_act_124 : decode cL_act 124 = .ok (.iaload, 1) := by decide +kernel
theorem dL_act_125 : decode cL_act 125 = .ok (.aload 5, 2) := by decide +kernel
theorem dL_act_127 : decode cL_act 127 = .ok (.iconst 3, 1) := by decide +kernel
theorem dL_act_128 : decode cL_act 128 = .ok (.iaload, 1) := by decide +kernel
theorem dL_act_129 : decode cL_act 129 = .ok (.invokevirtual 25, 3) := by decide +kernel
theorem dL_act_132 : decode cL_act 132 = .ok (.iload_n 3, 1) := by decide +kernel
theorem dL_act_133 : decode cL_act 133 = .ok (.if_icmp .ne 7, 3) := by decide +kernel
theorem dL_act_136 : decode cL_act 136 = .ok (.iconst 1, 1) := by decide +kernel
theorem dL_act_137 : decode cL_act 137 = .ok (.goto 4, 3) := by decide +kernel
theorem dL_act_140 : decode cL_act 140 = .ok (.iconst 0, 1) := by decide +kernel
theorem dL_act_141 : decode cL_act 141 = .ok (.ireturn, 1) := by decide +kernel
theorem dL_act_142 : decode cL_act 142 = .ok (.iload_n 2, 1) := by decide +kernel
theorem dL_act_143 : decode cL_act 143 = .ok (.iconst 1, 1) := by decide +kernel
theorem dL_act_144 : decode cL_act 144 = .ok (.ishr, 1) := by decide +kernel
theorem dL_act_145 : decode cL_act 145 = .ok (.iload_n 3, 1) := by decide +kernel
theorem dL_act_146 : decode cL_act 146 = .ok (.invokestatic 15, 3) := by decide +kernel
theorem dL_act_149 : decode cL_act 149 = .ok (.istore 5, 2) := by decide +kernel
theorem dL_act_151 : decode cL_act 151 = .ok (.aload_n 1, 1) := by decide +kernel
theorem dL_act_152 : decode cL_act 152 = .ok (.getfield 9, 3) := by decide +kernel
theorem dL_act_155 : decode cL_act 155 = .ok (.iload 5, 2) := by decide +kernel
theorem dL_act_157 : decode cL_act 157 = .ok (.aaload, 1) := by decide +kernel
theorem dL_act_158 : decode cL_act 158 = .ok (.astore 6, 2) := by decide +kernel
theorem dL_act_160 : decode cL_act 160 = .ok (.iload 4, 2) := by decide +kernel
theorem dL_act_162 : decode cL_act 162 = .ok (.tableswitch 359 2 11 #[54, 54, 102, 102, 165, 165, 204, 241, 241, 241], 54) := by decide +kernel
theorem dL_act_216 : decode cL_act 216 = .ok (.iconst 1, 1) := by decide +kernel
theorem dL_act_217 : decode cL_act 217 = .ok (.iload_n 2, 1) := by decide +kernel
theorem dL_act_218 : decode cL_act 218 = .ok (.iconst 3, 1) := by decide +kernel
theorem dL_act_219 : decode cL_act 219 = .ok (.ishr, 1) := by decide +kernel
theorem dL_act_220 : decode cL_act 220 = .ok (.bipush 12, 2) := by decide +kernel
theorem dL_act_222 : decode cL_act 222 = .ok (.invokestatic 15, 3) := by decide +kernel
theorem dL_act_225 : decode cL_act 225 = .ok (.iadd, 1) := by decide +kernel
theorem dL_act_226 : decode cL_act 226 = .ok (.istore 7, 2) := by decide +kernel
theorem dL_act_228 : decode cL_act 228 = .ok (.aload 6, 2) := by decide +kernel
theorem dL_act_230 : decode cL_act 230 = .ok (.iconst 1, 1) := by decide +kernel
theorem dL_act_231 : decode cL_act 231 = .ok (.iconst 0, 1) := by decide +kernel
theorem dL_act_232 : decode cL_act 232 = .ok (.aload 6, 2) := by decide +kernel
theorem dL_act_234 : decode cL_act 234 = .ok (.iconst 1, 1) := by decide +kernel
theorem dL_act_235 : decode cL_act 235 = .ok (.iaload, 1) := by decide +kernel
theorem dL_act_236 : decode cL_act 236 = .ok (.iload 7, 2) := by decide +kernel
theorem dL_act_238 : decode cL_act 238 = .ok (.isub, 1) := by decide +kernel
theorem dL_act_239 : decode cL_act 239 = .ok (.invokestatic 31, 3) := by decide +kernel
theorem dL_act_242 : decode cL_act 242 = .ok (.iastore, 1) := by decide +kernel
theorem dL_act_243 : decode cL_act 243 = .ok (.aload_n 0, 1) := by decide +kernel
theorem dL_act_244 : decode cL_act 244 = .ok (.iload 5, 2) := by decide +kernel
theorem dL_act_246 : decode cL_act 246 = .ok (.iload 7, 2) := by decide +kernel
theorem dL_act_248 : decode cL_act 248 = .ok (.invokevirtual 36, 3) := by decide +kernel
theorem dL_act_251 : decode cL_act 251 = .ok (.aload 6, 2) := by decide +kernel
theorem dL_act_253 : decode cL_act 253 = .ok (.iconst 1, 1) := by decide +kernel
theorem dL_act_254 : decode cL_act 254 = .ok (.iaload, 1) := by decide +kernel
theorem dL_act_255 : decode cL_act 255 = .ok (.if_icmp .ne 7, 3) := by decide +kernel
theorem dL_act_258 : decode cL_act 258 = .ok (.iconst 1, 1) := by decide +kernel
theorem dL_act_259 : decode cL_act 259 = .ok (.goto 4, 3) := by decide +kernel
theorem dL_act_262 : decode cL_act 262 = .ok (.iconst 0, 1) := by decide +kernel
theorem dL_act_263 : decode cL_act 263 = .ok (.ireturn, 1) := by decide +kernel
theorem dL_act_264 : decode cL_act 264 = .ok (.aload 6, 2) := by decide +kernel
theorem dL_act_266 : decode cL_act 266 = .ok (.iconst 0, 1) := by decide +kernel
theorem dL_act_267 : decode cL_act 267 = .ok (.iaload, 1) := by decide +kernel
theorem dL_act_268 : decode cL_act 268 = .ok (.ifCond .eq 20, 3) := by decide +kernel
theorem dL_act_271 : decode cL_act 271 = .ok (.aload 6, 2) := by decide +kernel
theorem dL_act_273 : decode cL_act 273 = .ok (.iconst 0, 1) := by decide +kernel
theorem dL_act_274 : decode cL_act 274 = .ok (.iaload, 1) := by decide +kernel
theorem dL_act_275 : decode cL_act 275 = .ok (.bipush 20, 2) := by decide +kernel
theorem dL_act_277 : decode cL_act 277 = .ok (.if_icmp .eq 11, 3) := by decide +kernel
theorem dL_act_280 : decode cL_act 280 = .ok (.aload_n 1, 1) := by decide +kernel
theorem dL_act_281 : decode cL_act 281 = .ok (.getfield 39, 3) := by decide +kernel
theorem dL_act_284 : decode cL_act 284 = .ok (.iconst 5, 1) := by decide +kernel
theorem dL_act_285 : decode cL_act 285 = .ok (.if_icmp .ge 5, 3) := by decide +kernel
theorem dL_act_288 : decode cL_act 288 = .ok (.iconst 1, 1) := by decide +kernel
theorem dL_act_289 : decode cL_act 289 = .ok (.ireturn, 1) := by decide +kernel
theorem dL_act_290 : decode cL_act 290 = .ok (.aload_n 1, 1) := by decide +kernel
theorem dL_act_291 : decode cL_act 291 = .ok (.dup, 1) := by decide +kernel
theorem dL_act_292 : decode cL_act 292 = .ok (.getfield 39, 3) := by decide +kernel
theorem dL_act_295 : decode cL_act 295 = .ok (.iconst 5, 1) := by decide +kernel
theorem dL_act_296 : decode cL_act 296 = .ok (.isub, 1) := by decide +kernel
theorem dL_act_297 : decode cL_act 297 = .ok (.putfield 39, 3) := by decide +kernel
theorem dL_act_300 : decode cL_act 300 = .ok (.aload 6, 2) := by decide +kernel
theorem dL_act_302 : decode cL_act 302 = .ok (.iconst 0, 1) := by decide +kernel
theorem dL_act_303 : decode cL_act 303 = .ok (.dup2, 1) := by decide +kernel
theorem dL_act_304 : decode cL_act 304 = .ok (.iaload, 1) := by decide +kernel
theorem dL_act_305 : decode cL_act 305 = .ok (.iconst 1, 1) := by decide +kernel
theorem dL_act_306 : decode cL_act 306 = .ok (.iadd, 1) := by decide +kernel
theorem dL_act_307 : decode cL_act 307 = .ok (.iastore, 1) := by decide +kernel
theorem dL_act_308 : decode cL_act 308 = .ok (.aload_n 0, 1) := by decide +kernel
theorem dL_act_309 : decode cL_act 309 = .ok (.iload 5, 2) := by decide +kernel
theorem dL_act_311 : decode cL_act 311 = .ok (.invokevirtual 43, 3) := by decide +kernel
theorem dL_act_314 : decode cL_act 314 = .ok (.aload 6, 2) := by decide +kernel
theorem dL_act_316 : decode cL_act 316 = .ok (.iconst 0, 1) := by decide +kernel
theorem dL_act_317 : decode cL_act 317 = .ok (.iaload, 1) := by decide +kernel
theorem dL_act_318 : decode cL_act 318 = .ok (.if_icmp .ne 7, 3) := by decide +kernel
theorem dL_act_321 : decode cL_act 321 = .ok (.iconst 1, 1) := by decide +kernel
theorem dL_act_322 : decode cL_act 322 = .ok (.goto 4, 3) := by decide +kernel
theorem dL_act_325 : decode cL_act 325 = .ok (.iconst 0, 1) := by decide +kernel
theorem dL_act_326 : decode cL_act 326 = .ok (.ireturn, 1) := by decide +kernel
theorem dL_act_327 : decode cL_act 327 = .ok (.aload 6, 2) := by decide +kernel
theorem dL_act_329 : decode cL_act 329 = .ok (.iconst 3, 1) := by decide +kernel
theorem dL_act_330 : decode cL_act 330 = .ok (.iaload, 1) := by decide +kernel
theorem dL_act_331 : decode cL_act 331 = .ok (.istore 8, 2) := by decide +kernel
theorem dL_act_333 : decode cL_act 333 = .ok (.aload 6, 2) := by decide +kernel
theorem dL_act_335 : decode cL_act 335 = .ok (.iconst 3, 1) := by decide +kernel
theorem dL_act_336 : decode cL_act 336 = .ok (.iload_n 2, 1) := by decide +kernel
theorem dL_act_337 : decode cL_act 337 = .ok (.iconst 3, 1) := by decide +kernel
theorem dL_act_338 : decode cL_act 338 = .ok (.ishr, 1) := by decide +kernel
theorem dL_act_339 : decode cL_act 339 = .ok (.bipush 10, 2) := by decide +kernel
theorem dL_act_341 : decode cL_act 341 = .ok (.invokestatic 15, 3) := by decide +kernel
theorem dL_act_344 : decode cL_act 344 = .ok (.iastore, 1) := by decide +kernel
theorem dL_act_345 : decode cL_act 345 = .ok (.aload_n 0, 1) := by decide +kernel
theorem dL_act_346 : decode cL_act 346 = .ok (.iload 5, 2) := by decide +kernel
theorem dL_act_348 : decode cL_act 348 = .ok (.aload 6, 2) := by decide +kernel
theorem dL_act_350 : decode cL_act 350 = .ok (.iconst 3, 1) := by decide +kernel
theorem dL_act_351 : decode cL_act 351 = .ok (.iaload, 1) := by decide +kernel
theorem dL_act_352 : decode cL_act 352 = .ok (.invokevirtual 47, 3) := by decide +kernel
theorem dL_act_355 : decode cL_act 355 = .ok (.iload 8, 2) := by decide +kernel
theorem dL_act_357 : decode cL_act 357 = .ok (.if_icmp .ne 7, 3) := by decide +kernel
theorem dL_act_360 : decode cL_act 360 = .ok (.iconst 1, 1) := by decide +kernel
theorem dL_act_361 : decode cL_act 361 = .ok (.goto 4, 3) := by decide +kernel
theorem dL_act_364 : decode cL_act 364 = .ok (.iconst 0, 1) := by decide +kernel
theorem dL_act_365 : decode cL_act 365 = .ok (.ireturn, 1) := by decide +kernel
theorem dL_act_366 : decode cL_act 366 = .ok (.aload_n 1, 1) := by decide +kernel
theorem dL_act_367 : decode cL_act 367 = .ok (.getfield 50, 3) := by decide +kernel
theorem dL_act_370 : decode cL_act 370 = .ok (.istore 9, 2) := by decide +kernel
theorem dL_act_372 : decode cL_act 372 = .ok (.aload_n 1, 1) := by decide +kernel
theorem dL_act_373 : decode cL_act 373 = .ok (.iload_n 2, 1) := by decide +kernel
theorem dL_act_374 : decode cL_act 374 = .ok (.iconst 2, 1) := by decide +kernel
theorem dL_act_375 : decode cL_act 375 = .ok (.ishr, 1) := by decide +kernel
theorem dL_act_376 : decode cL_act 376 = .ok (.bipush 41, 2) := by decide +kernel
theorem dL_act_378 : decode cL_act 378 = .ok (.invokestatic 15, 3) := by decide +kernel
theorem dL_act_381 : decode cL_act 381 = .ok (.putfield 50, 3) := by decide +kernel
theorem dL_act_384 : decode cL_act 384 = .ok (.aload_n 0, 1) := by decide +kernel
theorem dL_act_385 : decode cL_act 385 = .ok (.aload_n 1, 1) := by decide +kernel
theorem dL_act_386 : decode cL_act 386 = .ok (.getfield 50, 3) := by decide +kernel
theorem dL_act_389 : decode cL_act 389 = .ok (.invokevirtual 53, 3) := by decide +kernel
theorem dL_act_392 : decode cL_act 392 = .ok (.iload 9, 2) := by decide +kernel
theorem dL_act_394 : decode cL_act 394 = .ok (.if_icmp .ne 7, 3) := by decide +kernel
theorem dL_act_397 : decode cL_act 397 = .ok (.iconst 1, 1) := by decide +kernel
theorem dL_act_398 : decode cL_act 398 = .ok (.goto 4, 3) := by decide +kernel
theorem dL_act_401 : decode cL_act 401 = .ok (.iconst 0, 1) := by decide +kernel
theorem dL_act_402 : decode cL_act 402 = .ok (.ireturn, 1) := by decide +kernel
theorem dL_act_403 : decode cL_act 403 = .ok (.iload_n 2, 1) := by decide +kernel
theorem dL_act_404 : decode cL_act 404 = .ok (.iconst 3, 1) := by decide +kernel
theorem dL_act_405 : decode cL_act 405 = .ok (.ishr, 1) := by decide +kernel
theorem dL_act_406 : decode cL_act 406 = .ok (.iload_n 2, 1) := by decide +kernel
theorem dL_act_407 : decode cL_act 407 = .ok (.iconst 2, 1) := by decide +kernel
theorem dL_act_408 : decode cL_act 408 = .ok (.invokestatic 15, 3) := by decide +kernel
theorem dL_act_411 : decode cL_act 411 = .ok (.ifCond .ne 8, 3) := by decide +kernel
theorem dL_act_414 : decode cL_act 414 = .ok (.bipush 31, 2) := by decide +kernel
theorem dL_act_416 : decode cL_act 416 = .ok (.goto 5, 3) := by decide +kernel
theorem dL_act_419 : decode cL_act 419 = .ok (.bipush 6, 2) := by decide +kernel
theorem dL_act_421 : decode cL_act 421 = .ok (.invokestatic 15, 3) := by decide +kernel
theorem dL_act_424 : decode cL_act 424 = .ok (.istore 10, 2) := by decide +kernel
theorem dL_act_426 : decode cL_act 426 = .ok (.aload_n 1, 1) := by decide +kernel
theorem dL_act_427 : decode cL_act 427 = .ok (.getfield 56, 3) := by decide +kernel
theorem dL_act_430 : decode cL_act 430 = .ok (.arraylength, 1) := by decide +kernel
theorem dL_act_431 : decode cL_act 431 = .ok (.istore 11, 2) := by decide +kernel
theorem dL_act_433 : decode cL_act 433 = .ok (.aload 6, 2) := by decide +kernel
theorem dL_act_435 : decode cL_act 435 = .ok (.iconst 0, 1) := by decide +kernel
theorem dL_act_436 : decode cL_act 436 = .ok (.iaload, 1) := by decide +kernel
theorem dL_act_437 : decode cL_act 437 = .ok (.ifCond .eq 10, 3) := by decide +kernel
theorem dL_act_440 : decode cL_act 440 = .ok (.iload 11, 2) := by decide +kernel
theorem dL_act_442 : decode cL_act 442 = .ok (.bipush 30, 2) := by decide +kernel
theorem dL_act_444 : decode cL_act 444 = .ok (.if_icmp .ne 5, 3) := by decide +kernel
theorem dL_act_447 : decode cL_act 447 = .ok (.iconst 1, 1) := by decide +kernel
theorem dL_act_448 : decode cL_act 448 = .ok (.ireturn, 1) := by decide +kernel
theorem dL_act_449 : decode cL_act 449 = .ok (.aload_n 1, 1) := by decide +kernel
theorem dL_act_450 : decode cL_act 450 = .ok (.aload_n 1, 1) := by decide +kernel
theorem dL_act_451 : decode cL_act 451 = .ok (.getfield 56, 3) := by decide +kernel
theorem dL_act_454 : decode cL_act 454 = .ok (.iconst 4, 1) := by decide +kernel
theorem dL_act_455 : decode cL_act 455 = .ok (.newarray .int, 2) := by decide +kernel
theorem dL_act_457 : decode cL_act 457 = .ok (.dup, 1) := by decide +kernel
theorem dL_act_458 : decode cL_act 458 = .ok (.iconst 0, 1) := by decide +kernel
theorem dL_act_459 : decode cL_act 459 = .ok (.iload 5, 2) := by decide +kernel
theorem dL_act_461 : decode cL_act 461 = .ok (.iastore, 1) := by decide +kernel
theorem dL_act_462 : decode cL_act 462 = .ok (.dup, 1) := by decide +kernel
theorem dL_act_463 : decode cL_act 463 = .ok (.iconst 1, 1) := by decide +kernel
theorem dL_act_464 : decode cL_act 464 = .ok (.aload_n 1, 1) := by decide +kernel
theorem dL_act_465 : decode cL_act 465 = .ok (.getfield 59, 3) := by decide +kernel
theorem dL_act_468 : decode cL_act 468 = .ok (.iload 10, 2) := by decide +kernel
theorem dL_act_470 : decode cL_act 470 = .ok (.iadd, 1) := by decide +kernel
theorem dL_act_471 : decode cL_act 471 = .ok (.iastore, 1) := by decide +kernel
theorem dL_act_472 : decode cL_act 472 = .ok (.dup, 1) := by decide +kernel
theorem dL_act_473 : decode cL_act 473 = .ok (.iconst 2, 1) := by decide +kernel
theorem dL_act_474 : decode cL_act 474 = .ok (.aload 6, 2) := by decide +kernel
theorem dL_act_476 : decode cL_act 476 = .ok (.iconst 3, 1) := by decide +kernel
theorem dL_act_477 : decode cL_act 477 = .ok (.iaload, 1) := by decide +kernel
theorem dL_act_478 : decode cL_act 478 = .ok (.iastore, 1) := by decide +kernel
theorem dL_act_479 : decode cL_act 479 = .ok (.dup, 1) := by decide +kernel
theorem dL_act_480 : decode cL_act 480 = .ok (.iconst 3, 1) := by decide +kernel
theorem dL_act_481 : decode cL_act 481 = .ok (.iconst 0, 1) := by decide +kernel
theorem dL_act_482 : decode cL_act 482 = .ok (.iastore, 1) := by decide +kernel
theorem dL_act_483 : decode cL_act 483 = .ok (.invokestatic 21, 3) := by decide +kernel
theorem dL_act_486 : decode cL_act 486 = .ok (.putfield 56, 3) := by decide +kernel
theorem dL_act_489 : decode cL_act 489 = .ok (.aload_n 1, 1) := by decide +kernel
theorem dL_act_490 : decode cL_act 490 = .ok (.dup, 1) := by decide +kernel
theorem dL_act_491 : decode cL_act 491 = .ok (.getfield 39, 3) := by decide +kernel
theorem dL_act_494 : decode cL_act 494 = .ok (.aload 6, 2) := by decide +kernel
theorem dL_act_496 : decode cL_act 496 = .ok (.iconst 3, 1) := by decide +kernel
theorem dL_act_497 : decode cL_act 497 = .ok (.iaload, 1) := by decide +kernel
theorem dL_act_498 : decode cL_act 498 = .ok (.iadd, 1) := by decide +kernel
theorem dL_act_499 : decode cL_act 499 = .ok (.putfield 39, 3) := by decide +kernel
theorem dL_act_502 : decode cL_act 502 = .ok (.aload_n 0, 1) := by decide +kernel
theorem dL_act_503 : decode cL_act 503 = .ok (.iload 5, 2) := by decide +kernel
theorem dL_act_505 : decode cL_act 505 = .ok (.iload 10, 2) := by decide +kernel
theorem dL_act_507 : decode cL_act 507 = .ok (.invokevirtual 62, 3) := by decide +kernel
theorem dL_act_510 : decode cL_act 510 = .ok (.iload 11, 2) := by decide +kernel
theorem dL_act_512 : decode cL_act 512 = .ok (.if_icmp .ne 7, 3) := by decide +kernel
theorem dL_act_515 : decode cL_act 515 = .ok (.iconst 1, 1) := by decide +kernel
theorem dL_act_516 : decode cL_act 516 = .ok (.goto 4, 3) := by decide +kernel
theorem dL_act_519 : decode cL_act 519 = .ok (.iconst 0, 1) := by decide +kernel
theorem dL_act_520 : decode cL_act 520 = .ok (.ireturn, 1) := by decide +kernel
theorem dL_act_521 : decode cL_act 521 = .ok (.iconst 1, 1) := by decide +kernel
theorem dL_act_522 : decode cL_act 522 = .ok (.iload_n 2, 1) := by decide +kernel
theorem dL_act_523 : decode cL_act 523 = .ok (.iconst 2, 1) := by decide +kernel
theorem dL_act_524 : decode cL_act 524 = .ok (.ishr, 1) := by decide +kernel
theorem dL_act_525 : decode cL_act 525 = .ok (.iload_n 2, 1) := by decide +kernel
theorem dL_act_526 : decode cL_act 526 = .ok (.bipush 6, 2) := by decide +kernel
theorem dL_act_528 : decode cL_act 528 = .ok (.invokestatic 15, 3) := by decide +kernel
theorem dL_act_531 : decode cL_act 531 = .ok (.ifCond .ne 8, 3) := by decide +kernel
theorem dL_act_534 : decode cL_act 534 = .ok (.bipush 60, 2) := by decide +kernel
theorem dL_act_536 : decode cL_act 536 = .ok (.goto 4, 3) := by decide +kernel
theorem dL_act_539 : decode cL_act 539 = .ok (.iconst 4, 1) := by decide +kernel
theorem dL_act_540 : decode cL_act 540 = .ok (.invokestatic 15, 3) := by decide +kernel
theorem dL_act_543 : decode cL_act 543 = .ok (.iadd, 1) := by decide +kernel
theorem dL_act_544 : decode cL_act 544 = .ok (.istore 12, 2) := by decide +kernel
theorem dL_act_546 : decode cL_act 546 = .ok (.aload_n 0, 1) := by decide +kernel
theorem dL_act_547 : decode cL_act 547 = .ok (.iload 12, 2) := by decide +kernel
theorem dL_act_549 : decode cL_act 549 = .ok (.invokevirtual 65, 3) := by decide +kernel
theorem dL_act_552 : decode cL_act 552 = .ok (.aload_n 1, 1) := by decide +kernel
theorem dL_act_553 : decode cL_act 553 = .ok (.iload 12, 2) := by decide +kernel
theorem dL_act_555 : decode cL_act 555 = .ok (.invokevirtual 68, 3) := by decide +kernel
theorem dL_act_558 : decode cL_act 558 = .ok (.if_icmp .ne 7, 3) := by decide +kernel
theorem dL_act_561 : decode cL_act 561 = .ok (.iconst 1, 1) := by decide +kernel
theorem dL_act_562 : decode cL_act 562 = .ok (.goto 4, 3) := by decide +kernel
theorem dL_act_565 : decode cL_act 565 = .ok (.iconst 0, 1) := by decide +kernel
theorem dL_act_566 : decode cL_act 566 = .ok (.ireturn, 1) := by decide +kernel
set_option maxRecDepth 20000 in
theorem ggL_build_X5_init : GoodIn wsL_build wsX5_init := goodIn_r _ [5, 6, 7, 8, 9, 10, 11, 12, 225, 226, 227, 228, 229] (by decide +kernel) (by decide +kernel)
set_option maxRecDepth 20000 in
theorem gL_build_X5_init_n71 : GoodIn wsL_build (wsX5_init) := ggL_build_X5_init
set_option maxRecDepth 20000 in
theorem ggL_build_L_cell : GoodIn wsL_build wsL_cell := goodIn_r _ [16, 17] (by decide +kernel) (by decide +kernel)
set_option maxRecDepth 20000 in
theorem gL_build_L_cell : GoodIn wsL_build (va_wsS RL 72 yL_cell wsL_cell) := goodIn_app (goodIn_of _ (by decide +kernel)) ggL_build_L_cell
set_option maxRecDepth 20000 in
theorem ggL_build_L_below : GoodIn wsL_build wsL_below := goodIn_r _ [20, 21] (by decide +kernel) (by decide +kernel)
set_option maxRecDepth 20000 in
theorem gL_build_L_below : GoodIn wsL_build (va_wsS RL 15 yL_below wsL_below) := goodIn_app (goodIn_of _ (by decide +kernel)) ggL_build_L_below
set_option maxRecDepth 20000 in
theorem gq_wsL_build_wsL_act_1 : GoodIn wsL_build ([.code yL_act cL_act 13 (some .boolean)] : List Cond) := goodIn_p ([.code yL_act cL_act 13 (some .boolean)] : List Cond) [24] rfl (by decide +kernel)
set_option maxRecDepth 20000 in
theorem gq_wsL_build_wsL_act_2 : GoodIn wsL_build wsL_act_r1 := goodIn_p wsL_act_r1 [30, 20, 37] rfl (by decide +kernel)
set_option maxRecDepth 20000 in
theorem gq_wsL_build_wsL_act_3 : GoodIn wsL_build wsL_act_r2 := goodIn_p wsL_act_r2 [42, 52, 57] rfl (by decide +kernel)
set_option maxRecDepth 20000 in
theorem gq_wsL_build_wsL_act_4 : GoodIn wsL_build wsL_act_r3 := goodIn_p wsL_act_r3 [66, 71, 77, 81, 86] rfl (by decide +kernel)
set_option maxRecDepth 20000 in
theorem gq_wsL_build_wsL_act_5 : GoodIn wsL_build wsL_act_r4 := goodIn_p wsL_act_r4 [92, 97, 102, 107] rfl (by decide +kernel)
set_option maxRecDepth 20000 in
theorem gq_wsL_build_wsL_act_6 : GoodIn wsL_build wsL_act_r5 := goodIn_p wsL_act_r5 [115, 124, 127, 132] rfl (by decide +kernel)
set_option maxRecDepth 20000 in
theorem gq_wsL_build_wsL_act_7 : GoodIn wsL_build wsL_act_r6 := goodIn_p wsL_act_r6 [140, 147, 150, 154, 160] rfl (by decide +kernel)
set_option maxRecDepth 20000 in
theorem gq_wsL_build_wsL_act_8 : GoodIn wsL_build wsL_act_r7 := goodIn_p wsL_act_r7 [164, 168, 172, 176, 181] rfl (by decide +kernel)
set_option maxRecDepth 20000 in
theorem gq_wsL_build_wsL_act_9 : GoodIn wsL_build wsL_act_r8 := goodIn_p wsL_act_r8 [186, 190, 194, 199, 203, 207] rfl (by decide +kernel)
set_option maxRecDepth 20000 in
theorem gq_wsL_build_wsL_act_10 : GoodIn wsL_build wsL_act_r9 := goodIn_p wsL_act_r9 [213, 217, 221, 224] rfl (by decide +kernel)
set_option maxRecDepth 20000 in
theorem gq_wsL_build_wsL_act_11 : GoodIn wsL_build wsX50 := goodIn_p wsX50 [] rfl (by decide +kernel)
set_option maxRecDepth 20000 in
theorem gq_wsL_build_wsL_act_12 : GoodIn wsL_build wsX40 := goodIn_p wsX40 [] rfl (by decide +kernel)
set_option maxRecDepth 20000 in
theorem gq_wsL_build_wsL_act_13 : GoodIn wsL_build wsX10 := goodIn_p wsX10 [] rfl (by decide +kernel)
set_option maxRecDepth 20000 in
theorem gq_wsL_build_wsL_act_14 : GoodIn wsL_build wsX20 := goodIn_p wsX20 [] rfl (by decide +kernel)
set_option maxRecDepth 20000 in
theorem gq_wsL_build_wsL_act_15 : GoodIn wsL_build wsX30 := goodIn_p wsX30 [] rfl (by decide +kernel)
set_option maxRecDepth 20000 in
theorem ggL_build_L_act : GoodIn wsL_build wsL_act := goodIn_ca (goodIn_ca (goodIn_ca (zz_gc gq_wsL_build_wsL_act_1 (goodIn_app (goodIn_app (goodIn_app (goodIn_app (goodIn_app (goodIn_app gq_wsL_build_wsL_act_2 (goodIn_app gq_wsL_build_wsL_act_3 (goodIn_app gq_wsL_build_wsL_act_4 (goodIn_app gq_wsL_build_wsL_act_5 (goodIn_app gq_wsL_build_wsL_act_6 (goodIn_app gq_wsL_build_wsL_act_7 (goodIn_app gq_wsL_build_wsL_act_8 (goodIn_app gq_wsL_build_wsL_act_9 gq_wsL_build_wsL_act_10)))))))) gq_wsL_build_wsL_act_11) gq_wsL_build_wsL_act_12) gq_wsL_build_wsL_act_13) gq_wsL_build_wsL_act_14) gq_wsL_build_wsL_act_15)) (goodIn_sub (fun _ h => List.mem_cons_of_mem _ (List.mem_append_left _ (List.mem_append_left _ (List.mem_append_right _ h)))) (by decide +kernel))) (goodIn_sub (fun _ h => List.mem_cons_of_mem _ (List.mem_append_left _ (List.mem_append_right _ h))) (by decide +kernel))) (goodIn_sub (fun _ h => List.mem_cons_of_mem _ (List.mem_append_right _ h)) (by decide +kernel))
set_option maxRecDepth 20000 in
theorem gL_build_L_act : GoodIn wsL_build (va_wsS RL 76 yL_act wsL_act) := goodIn_app (goodIn_of _ (by decide +kernel)) ggL_build_L_act
theorem dL_build_0 : decode cL_build 0 = .ok (.new 10, 3) := by decide +kernel
theorem dL_build_3 : decode cL_build 3 = .ok (.dup, 1) := by decide +kernel
theorem dL_build_4 : decode cL_build 4 = .ok (.invokespecial 71, 3) := by decide +kernel
theorem dL_build_7 : decode cL_build 7 = .ok (.astore_n 2, 1) := by decide +kernel
theorem dL_build_8 : decode cL_build 8 = .ok (.bipush 12, 2) := by decide +kernel
theorem dL_build_10 : decode cL_build 10 = .ok (.aload_n 1, 1) := by decide +kernel
theorem dL_build_11 : decode cL_build 11 = .ok (.iconst 0, 1) := by decide +kernel
theorem dL_build_12 : decode cL_build 12 = .ok (.invokestatic 72, 3) := by decide +kernel
theorem dL_build_15 : decode cL_build 15 = .ok (.bipush 44, 2) := by decide +kernel
theorem dL_build_17 : decode cL_build 17 = .ok (.invokestatic 15, 3) := by decide +kernel
theorem dL_build_20 : decode cL_build 20 = .ok (.iadd, 1) := by decide +kernel
theorem dL_build_21 : decode cL_build 21 = .ok (.istore_n 3, 1) := by decide +kernel
theorem dL_build_22 : decode cL_build 22 = .ok (.iconst 0, 1) := by decide +kernel
theorem dL_build_23 : decode cL_build 23 = .ok (.istore 4, 2) := by decide +kernel
theorem dL_build_25 : decode cL_build 25 = .ok (.iload 4, 2) := by decide +kernel
theorem dL_build_27 : decode cL_build 27 = .ok (.iload_n 3, 1) := by decide +kernel
theorem dL_build_28 : decode cL_build 28 = .ok (.if_icmp .ge 43, 3) := by decide +kernel
theorem dL_build_31 : decode cL_build 31 = .ok (.aload_n 0, 1) := by decide +kernel
theorem dL_build_32 : decode cL_build 32 = .ok (.aload_n 2, 1) := by decide +kernel
theorem dL_build_33 : decode cL_build 33 = .ok (.aload_n 1, 1) := by decide +kernel
theorem dL_build_34 : decode cL_build 34 = .ok (.iload 4, 2) := by decide +kernel
theorem dL_build_36 : decode cL_build 36 = .ok (.bipush 16, 2) := by decide +kernel
theorem dL_build_38 : decode cL_build 38 = .ok (.irem, 1) := by decide +kernel
theorem dL_build_39 : decode cL_build 39 = .ok (.invokestatic 72, 3) := by decide +kernel
theorem dL_build_42 : decode cL_build 42 = .ok (.iload 4, 2) := by decide +kernel
theorem dL_build_44 : decode cL_build 44 = .ok (.bipush 16, 2) := by decide +kernel
theorem dL_build_46 : decode cL_build 46 = .ok (.idiv, 1) := by decide +kernel
theorem dL_build_47 : decode cL_build 47 = .ok (.iconst 3, 1) := by decide +kernel
theorem dL_build_48 : decode cL_build 48 = .ok (.imul, 1) := by decide +kernel
theorem dL_build_49 : decode cL_build 49 = .ok (.ishr, 1) := by decide +kernel
theorem dL_build_50 : decode cL_build 50 = .ok (.sipush 617, 3) := by decide +kernel
theorem dL_build_53 : decode cL_build 53 = .ok (.iload 4, 2) := by decide +kernel
theorem dL_build_55 : decode cL_build 55 = .ok (.imul, 1) := by decide +kernel
theorem dL_build_56 : decode cL_build 56 = .ok (.iadd, 1) := by decide +kernel
theorem dL_build_57 : decode cL_build 57 = .ok (.invokestatic 76, 3) := by decide +kernel
theorem dL_build_60 : decode cL_build 60 = .ok (.ifCond .ne 5, 3) := by decide +kernel
theorem dL_build_63 : decode cL_build 63 = .ok (.aconst_null, 1) := by decide +kernel
theorem dL_build_64 : decode cL_build 64 = .ok (.areturn, 1) := by decide +kernel
theorem dL_build_65 : decode cL_build 65 = .ok (.iinc 4 1, 3) := by decide +kernel
theorem dL_build_68 : decode cL_build 68 = .ok (.goto (-43), 3) := by decide +kernel
theorem dL_build_71 : decode cL_build 71 = .ok (.aload_n 2, 1) := by decide +kernel
theorem dL_build_72 : decode cL_build 72 = .ok (.areturn, 1) := by decide +kernel
