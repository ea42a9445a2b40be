set_option maxRecDepth 20000 in
theorem ggL_law_X4_init : GoodIn wsL_law wsX4_init := goodIn_r _ [14, 15, 16, 17, 18, 19, 20, 21, 22, 23, 24, 25, 26, 27, 28, 29, 30, 31, 32, 33, 34, 35, 36, 37, 38, 39, 4, 40, 41, 42, 43, 44, 45, 46, 47, 48, 49, 50, 51, 52, 53, 54, 407, 408, 409, 410, 411, 400, 401, 412, 413, 414, 415, 416, 417, 418, 419, 420, 421, 422, 423] (by decide +kernel) (by decide +kernel)
set_option maxRecDepth 20000 in
theorem gL_law_X4_init : GoodIn wsL_law (wsX4_init) := ggL_law_X4_init
set_option maxRecDepth 20000 in
theorem gq_wsL_law_wsL_build_1 : GoodIn wsL_law ([.code yL_build cL_build 5 (some (.object "RuinViewsLaw$Sim"))] : List Cond) := goodIn_p ([.code yL_build cL_build 5 (some (.object "RuinViewsLaw$Sim"))] : List Cond) [58] rfl (by decide +kernel)
set_option maxRecDepth 20000 in
theorem gq_wsL_law_wsL_build_2 : GoodIn wsL_law wsL_build_r1 := goodIn_p wsL_build_r1 [63, 17, 71, 75, 79] rfl (by decide +kernel)
set_option maxRecDepth 20000 in
theorem gq_wsL_law_wsL_build_3 : GoodIn wsL_law wsL_build_r2 := goodIn_p wsL_build_r2 [82, 88, 92] rfl (by decide +kernel)
set_option maxRecDepth 20000 in
theorem gq_wsL_law_wsL_build_4 : GoodIn wsL_law wsL_build_r3 := goodIn_p wsL_build_r3 [101, 105, 109, 114] rfl (by decide +kernel)
set_option maxRecDepth 20000 in
theorem gq_wsL_law_wsL_build_5 : GoodIn wsL_law wsL_build_r4 := goodIn_p wsL_build_r4 [120, 124, 129, 135] rfl (by decide +kernel)
set_option maxRecDepth 20000 in
theorem gq_wsL_law_wsL_build_6 : GoodIn wsL_law wsL_build_r5 := goodIn_p wsL_build_r5 [140, 145, 150, 157] rfl (by decide +kernel)
set_option maxRecDepth 20000 in
theorem gq_wsL_law_wsL_build_7 : GoodIn wsL_law wsL_build_r6 := goodIn_p wsL_build_r6 [161, 164, 168, 172] rfl (by decide +kernel)
set_option maxRecDepth 20000 in
theorem gq_wsL_law_wsL_build_8 : GoodIn wsL_law wsL_build_r7 := goodIn_p wsL_build_r7 [179, 182, 186, 190, 194, 198] rfl (by decide +kernel)
set_option maxRecDepth 20000 in
theorem gq_wsL_law_wsL_build_9 : GoodIn wsL_law wsL_build_r8 := goodIn_p wsL_build_r8 [202, 206, 210, 215, 219] rfl (by decide +kernel)
set_option maxRecDepth 20000 in
theorem gq_wsL_law_wsL_build_10 : GoodIn wsL_law wsL_build_r9 := goodIn_p wsL_build_r9 [223, 228, 232, 236, 242] rfl (by decide +kernel)
set_option maxRecDepth 20000 in
theorem gq_wsL_law_wsL_build_11 : GoodIn wsL_law wsL_build_r10 := goodIn_p wsL_build_r10 [246, 250, 253] rfl (by decide +kernel)
set_option maxRecDepth 20000 in
theorem gq_wsL_law_wsL_build_12 : GoodIn wsL_law wsX50 := goodIn_p wsX50 [] rfl (by decide +kernel)
set_option maxRecDepth 20000 in
theorem gq_wsL_law_wsL_build_13 : GoodIn wsL_law wsX40 := goodIn_p wsX40 [] rfl (by decide +kernel)
set_option maxRecDepth 20000 in
theorem gq_wsL_law_wsL_build_14 : GoodIn wsL_law wsX10 := goodIn_p wsX10 [] rfl (by decide +kernel)
set_option maxRecDepth 20000 in
theorem gq_wsL_law_wsL_build_15 : GoodIn wsL_law wsX20 := goodIn_p wsX20 [] rfl (by decide +kernel)
set_option maxRecDepth 20000 in
theorem gq_wsL_law_wsL_build_16 : GoodIn wsL_law wsX30 := goodIn_p wsX30 [] rfl (by decide +kernel)
set_option maxRecDepth 20000 in
theorem ggL_law_L_build : GoodIn wsL_law wsL_build := goodIn_ca (goodIn_ca (goodIn_ca (zz_gc gq_wsL_law_wsL_build_1 (goodIn_app (goodIn_app (goodIn_app (goodIn_app (goodIn_app (goodIn_app gq_wsL_law_wsL_build_2 (goodIn_app gq_wsL_law_wsL_build_3 (goodIn_app gq_wsL_law_wsL_build_4 (goodIn_app gq_wsL_law_wsL_build_5 (goodIn_app gq_wsL_law_wsL_build_6 (goodIn_app gq_wsL_law_wsL_build_7 (goodIn_app gq_wsL_law_wsL_build_8 (goodIn_app gq_wsL_law_wsL_build_9 (goodIn_app gq_wsL_law_wsL_build_10 gq_wsL_law_wsL_build_11))))))))) gq_wsL_law_wsL_build_12) gq_wsL_law_wsL_build_13) gq_wsL_law_wsL_build_14) gq_wsL_law_wsL_build_15) gq_wsL_law_wsL_build_16)) (goodIn_sub (fun _ h => List.mem_append_left _ (List.mem_append_left _ (List.mem_append_right _ h))) (by decide +kernel))) (goodIn_sub (fun _ h => List.mem_append_left _ (List.mem_append_right _ h)) (by decide +kernel))) (goodIn_sub (fun _ h => List.mem_append_right _ h) (by decide +kernel))
set_option maxRecDepth 20000 in
theorem gL_law_L_build : GoodIn wsL_law (va_wsS RL 81 yL_build wsL_build) := goodIn_app (goodIn_of _ (by decide +kernel)) ggL_law_L_build
set_option maxRecDepth 20000 in
theorem ggL_law_L_cell : GoodIn wsL_law wsL_cell := goodIn_r _ [71, 72] (by decide +kernel) (by decide +kernel)
set_option maxRecDepth 20000 in
theorem gL_law_L_cell : GoodIn wsL_law (va_wsS RL 72 yL_cell wsL_cell) := goodIn_app (goodIn_of _ (by decide +kernel)) ggL_law_L_cell
set_option maxRecDepth 20000 in
theorem gq_wsL_law_wsL_act_1 : GoodIn wsL_law ([.code yL_act cL_act 13 (some .boolean)] : List Cond) := goodIn_p ([.code yL_act cL_act 13 (some .boolean)] : List Cond) [79] rfl (by decide +kernel)
set_option maxRecDepth 20000 in
theorem gq_wsL_law_wsL_act_2 : GoodIn wsL_law wsL_act_r1 := goodIn_p wsL_act_r1 [82, 75, 88] rfl (by decide +kernel)
set_option maxRecDepth 20000 in
theorem gq_wsL_law_wsL_act_3 : GoodIn wsL_law wsL_act_r2 := goodIn_p wsL_act_r2 [92, 101, 105] rfl (by decide +kernel)
set_option maxRecDepth 20000 in
theorem gq_wsL_law_wsL_act_4 : GoodIn wsL_law wsL_act_r3 := goodIn_p wsL_act_r3 [109, 114, 120, 124, 129] rfl (by decide +kernel)
set_option maxRecDepth 20000 in
theorem gq_wsL_law_wsL_act_5 : GoodIn wsL_law wsL_act_r4 := goodIn_p wsL_act_r4 [135, 140, 145, 150] rfl (by decide +kernel)
set_option maxRecDepth 20000 in
theorem gq_wsL_law_wsL_act_6 : GoodIn wsL_law wsL_act_r5 := goodIn_p wsL_act_r5 [157, 161, 164, 168] rfl (by decide +kernel)
set_option maxRecDepth 20000 in
theorem gq_wsL_law_wsL_act_7 : GoodIn wsL_law wsL_act_r6 := goodIn_p wsL_act_r6 [172, 179, 182, 186, 190] rfl (by decide +kernel)
set_option maxRecDepth 20000 in
theorem gq_wsL_law_wsL_act_8 : GoodIn wsL_law wsL_act_r7 := goodIn_p wsL_act_r7 [194, 198, 202, 206, 210] rfl (by decide +kernel)
set_option maxRecDepth 20000 in
theorem gq_wsL_law_wsL_act_9 : GoodIn wsL_law wsL_act_r8 := goodIn_p wsL_act_r8 [215, 219, 223, 228, 232, 236] rfl (by decide +kernel)
set_option maxRecDepth 20000 in
theorem gq_wsL_law_wsL_act_10 : GoodIn wsL_law wsL_act_r9 := goodIn_p wsL_act_r9 [242, 246, 250, 253] rfl (by decide +kernel)
set_option maxRecDepth 20000 in
theorem gq_wsL_law_wsL_act_11 : GoodIn wsL_law wsX50 := goodIn_p wsX50 [] rfl (by decide +kernel)
set_option maxRecDepth 20000 in
theorem gq_wsL_law_wsL_act_12 : GoodIn wsL_law wsX40 := goodIn_p wsX40 [] rfl (by decide +kernel)
set_option maxRecDepth 20000 in
theorem gq_wsL_law_wsL_act_13 : GoodIn wsL_law wsX10 := goodIn_p wsX10 [] rfl (by decide +kernel)
set_option maxRecDepth 20000 in
theorem gq_wsL_law_wsL_act_14 : GoodIn wsL_law wsX20 := goodIn_p wsX20 [] rfl (by decide +kernel)
set_option maxRecDepth 20000 in
theorem gq_wsL_law_wsL_act_15 : GoodIn wsL_law wsX30 := goodIn_p wsX30 [] rfl (by decide +kernel)
set_option maxRecDepth 20000 in
theorem ggL_law_L_act : GoodIn wsL_law wsL_act := goodIn_ca (goodIn_ca (goodIn_ca (zz_gc gq_wsL_law_wsL_act_1 (goodIn_app (goodIn_app (goodIn_app (goodIn_app (goodIn_app (goodIn_app gq_wsL_law_wsL_act_2 (goodIn_app gq_wsL_law_wsL_act_3 (goodIn_app gq_wsL_law_wsL_act_4 (goodIn_app gq_wsL_law_wsL_act_5 (goodIn_app gq_wsL_law_wsL_act_6 (goodIn_app gq_wsL_law_wsL_act_7 (goodIn_app gq_wsL_law_wsL_act_8 (goodIn_app gq_wsL_law_wsL_act_9 gq_wsL_law_wsL_act_10)))))))) gq_wsL_law_wsL_act_11) gq_wsL_law_wsL_act_12) gq_wsL_law_wsL_act_13) gq_wsL_law_wsL_act_14) gq_wsL_law_wsL_act_15)) (goodIn_sub (fun _ h => List.mem_append_left _ (List.mem_append_left _ (List.mem_append_right _ h))) (by decide +kernel))) (goodIn_sub (fun _ h => List.mem_append_left _ (List.mem_append_right _ h)) (by decide +kernel))) (goodIn_sub (fun _ h => List.mem_append_right _ h) (by decide +kernel))
set_option maxRecDepth 20000 in
theorem gL_law_L_act : GoodIn wsL_law (va_wsS RL 76 yL_act wsL_act) := goodIn_app (goodIn_of _ (by decide +kernel)) ggL_law_L_act
set_option maxRecDepth 20000 in
theorem ggL_law_X4_ruins : GoodIn wsL_law wsX4_ruins := goodIn_r _ [257, 21, 97, 98, 400, 401, 407, 408, 409, 410, 411, 412, 413, 414, 415, 416, 417, 418] (by decide +kernel) (by decide +kernel)
set_option maxRecDepth 20000 in
theorem gL_law_X4_ruins : GoodIn wsL_law (wsV RL 85 RX4 yX4_ruins wsX4_ruins) := goodIn_app (goodIn_of _ (by decide +kernel)) ggL_law_X4_ruins
set_option maxRecDepth 20000 in
theorem ggL_law_X4_standing : GoodIn wsL_law wsX4_standing := goodIn_r _ [261, 21, 97, 262, 263, 264, 28, 265, 46, 40, 400, 401, 407, 408, 409, 410, 411, 412, 413, 414, 415, 416, 417, 418] (by decide +kernel) (by decide +kernel)
set_option maxRecDepth 20000 in
theorem gL_law_X4_standing : GoodIn wsL_law (wsV RL 88 RX4 yX4_standing wsX4_standing) := goodIn_app (goodIn_of _ (by decide +kernel)) ggL_law_X4_standing
set_option maxRecDepth 20000 in
theorem ggL_law_X4_wallsOf : GoodIn wsL_law wsX4_wallsOf := goodIn_ca (goodIn_r _ [269, 21, 97, 130, 111, 112, 113, 2, 114, 115, 116, 117, 118, 119, 28, 120, 46, 400, 401, 407, 408, 409, 410, 411, 412, 413, 414, 415, 416, 417, 418] (by decide +kernel) (by decide +kernel)) (goodIn_sub (fun _ h => List.mem_append_right _ h) (by decide +kernel))
set_option maxRecDepth 20000 in
theorem gL_law_X4_wallsOf : GoodIn wsL_law (wsV RL 93 RX4 yX4_wallsOf wsX4_wallsOf) := goodIn_app (goodIn_of _ (by decide +kernel)) ggL_law_X4_wallsOf
set_option maxRecDepth 20000 in
theorem ggL_law_X4_ivyOf : GoodIn wsL_law wsX4_ivyOf := goodIn_ca (goodIn_r _ [273, 21, 97, 110, 111, 112, 113, 2, 114, 115, 116, 117, 118, 119, 28, 120, 46, 400, 401, 407, 408, 409, 410, 411, 412, 413, 414, 415, 416, 417, 418] (by decide +kernel) (by decide +kernel)) (goodIn_sub (fun _ h => List.mem_append_right _ h) (by decide +kernel))
set_option maxRecDepth 20000 in
theorem gL_law_X4_ivyOf : GoodIn wsL_law (wsV RL 96 RX4 yX4_ivyOf wsX4_ivyOf) := goodIn_app (goodIn_of _ (by decide +kernel)) ggL_law_X4_ivyOf
set_option maxRecDepth 20000 in
theorem ggL_law_X4_ghostsOf : GoodIn wsL_law wsX4_ghostsOf := goodIn_ca (goodIn_r _ [277, 21, 97, 278, 111, 112, 113, 2, 114, 115, 116, 117, 118, 119, 28, 120, 46, 400, 401, 407, 408, 409, 410, 411, 412, 413, 414, 415, 416, 417, 418] (by decide +kernel) (by decide +kernel)) (goodIn_sub (fun _ h => List.mem_append_right _ h) (by decide +kernel))
set_option maxRecDepth 20000 in
theorem gL_law_X4_ghostsOf : GoodIn wsL_law (wsV RL 99 RX4 yX4_ghostsOf wsX4_ghostsOf) := goodIn_app (goodIn_of _ (by decide +kernel)) ggL_law_X4_ghostsOf
set_option maxRecDepth 20000 in
theorem ggL_law_X4_rankOf : GoodIn wsL_law wsX4_rankOf := goodIn_ca (goodIn_r _ [282, 21, 97, 283, 111, 112, 113, 2, 114, 115, 116, 117, 118, 119, 28, 120, 46, 284, 285, 286, 20, 287, 29, 34, 176, 177, 178, 179, 180, 181, 182, 183, 184, 185, 186, 44, 45, 40, 187, 188, 189, 190, 43, 191, 192, 193, 194, 42, 195, 196, 197, 198, 41, 199, 200, 201, 202, 400, 401, 407, 408, 409, 410, 411, 412, 413, 414, 415, 416, 417, 418] (by decide +kernel) (by decide +kernel)) (goodIn_sub (fun _ h => List.mem_append_right _ h) (by decide +kernel))
set_option maxRecDepth 20000 in
theorem gL_law_X4_rankOf : GoodIn wsL_law (wsV RL 102 RX4 yX4_rankOf wsX4_rankOf) := goodIn_app (goodIn_of _ (by decide +kernel)) ggL_law_X4_rankOf
set_option maxRecDepth 20000 in
theorem ggL_law_X4_hasCollapsed : GoodIn wsL_law wsX4_hasCollapsed := goodIn_ca (goodIn_r _ [291, 21, 97, 111, 112, 113, 2, 114, 115, 116, 117, 118, 119, 28, 120, 46, 132, 133, 134, 135, 40, 136, 400, 401, 407, 408, 409, 410, 411, 412, 413, 414, 415, 416, 417, 418] (by decide +kernel) (by decide +kernel)) (goodIn_sub (fun _ h => List.mem_append_right _ h) (by decide +kernel))
set_option maxRecDepth 20000 in
theorem gL_law_X4_hasCollapsed : GoodIn wsL_law (wsV RL 105 RX4 yX4_hasCollapsed wsX4_hasCollapsed) := goodIn_app (goodIn_of _ (by decide +kernel)) ggL_law_X4_hasCollapsed
set_option maxRecDepth 20000 in
theorem ggL_law_X4_viewOf : GoodIn wsL_law wsX4_viewOf := goodIn_ca (goodIn_r _ [295, 21, 97, 153, 111, 112, 113, 2, 114, 115, 116, 117, 118, 119, 28, 120, 46, 296, 177, 178, 179, 180, 181, 182, 297, 192, 193, 194, 40, 42, 195, 196, 197, 198, 41, 400, 401, 407, 408, 409, 410, 411, 412, 413, 414, 415, 416, 417, 418] (by decide +kernel) (by decide +kernel)) (goodIn_sub (fun _ h => List.mem_append_right _ h) (by decide +kernel))
set_option maxRecDepth 20000 in
theorem gL_law_X4_viewOf : GoodIn wsL_law (wsV RL 109 RX4 yX4_viewOf wsX4_viewOf) := goodIn_app (goodIn_of _ (by decide +kernel)) ggL_law_X4_viewOf
set_option maxRecDepth 20000 in
theorem ggL_law_X4_guestsOf : GoodIn wsL_law wsX4_guestsOf := goodIn_ca (goodIn_r _ [301, 21, 97, 283, 111, 112, 113, 2, 114, 115, 116, 117, 118, 119, 28, 120, 46, 284, 285, 286, 20, 287, 29, 34, 176, 177, 178, 179, 180, 181, 182, 183, 184, 185, 186, 44, 45, 40, 187, 188, 189, 190, 43, 191, 192, 193, 194, 42, 195, 196, 197, 198, 41, 199, 200, 201, 202, 302, 204, 205, 206, 35, 400, 401, 407, 408, 409, 410, 411, 412, 413, 414, 415, 416, 417, 418] (by decide +kernel) (by decide +kernel)) (goodIn_sub (fun _ h => List.mem_append_right _ h) (by decide +kernel))
set_option maxRecDepth 20000 in
theorem gL_law_X4_guestsOf : GoodIn wsL_law (wsV RL 112 RX4 yX4_guestsOf wsX4_guestsOf) := goodIn_app (goodIn_of _ (by decide +kernel)) ggL_law_X4_guestsOf
set_option maxRecDepth 20000 in
theorem ggL_law_X4_gradeOf : GoodIn wsL_law wsX4_gradeOf := goodIn_ca (goodIn_r _ [306, 21, 97, 111, 112, 113, 2, 114, 115, 116, 117, 118, 119, 28, 120, 46, 307, 196, 197, 198, 41, 400, 401, 407, 408, 409, 410, 411, 412, 413, 414, 415, 416, 417, 418] (by decide +kernel) (by decide +kernel)) (goodIn_sub (fun _ h => List.mem_append_right _ h) (by decide +kernel))
set_option maxRecDepth 20000 in
theorem gL_law_X4_gradeOf : GoodIn wsL_law (wsV RL 115 RX4 yX4_gradeOf wsX4_gradeOf) := goodIn_app (goodIn_of _ (by decide +kernel)) ggL_law_X4_gradeOf
set_option maxRecDepth 20000 in
theorem ggL_law_X4_brightness : GoodIn wsL_law wsX4_brightness := goodIn_r _ [311, 21, 153, 296, 177, 178, 179, 180, 181, 182, 400, 401, 407, 408, 409, 410, 411] (by decide +kernel) (by decide +kernel)
set_option maxRecDepth 20000 in
theorem gL_law_X4_brightness : GoodIn wsL_law (wsV RL 118 RX4 yX4_brightness wsX4_brightness) := goodIn_app (goodIn_of _ (by decide +kernel)) ggL_law_X4_brightness
set_option maxRecDepth 20000 in
theorem ggL_law_X4_ruinAt : GoodIn wsL_law wsX4_ruinAt := goodIn_ca (goodIn_r _ [315, 115, 116, 21, 97, 262, 263, 264, 28, 265, 46, 40, 99, 100, 2, 101, 284, 285, 286, 20, 287, 29, 34, 176, 177, 178, 179, 180, 181, 182, 183, 184, 185, 186, 44, 45, 187, 188, 189, 190, 43, 191, 192, 193, 194, 42, 195, 196, 197, 198, 41, 199, 200, 201, 202, 316, 317, 318, 319, 400, 401, 407, 408, 409, 410, 411, 412, 413, 414, 415, 416, 417, 418] (by decide +kernel) (by decide +kernel)) (goodIn_sub (fun _ h => List.mem_append_right _ h) (by decide +kernel))
set_option maxRecDepth 20000 in
theorem gL_law_X4_ruinAt : GoodIn wsL_law (wsV RL 121 RX4 yX4_ruinAt wsX4_ruinAt) := goodIn_app (goodIn_of _ (by decide +kernel)) ggL_law_X4_ruinAt
set_option maxRecDepth 20000 in
theorem ggL_law_X4_meanView : GoodIn wsL_law wsX4_meanView := goodIn_r _ [323, 21, 97, 153, 262, 263, 264, 28, 265, 46, 40, 296, 177, 178, 179, 180, 181, 182, 324, 325, 326, 327, 191, 192, 193, 194, 42, 195, 196, 197, 198, 41, 400, 401, 407, 408, 409, 410, 411, 412, 413, 414, 415, 416, 417, 418] (by decide +kernel) (by decide +kernel)
set_option maxRecDepth 20000 in
theorem gL_law_X4_meanView : GoodIn wsL_law (wsV RL 124 RX4 yX4_meanView wsX4_meanView) := goodIn_app (goodIn_of _ (by decide +kernel)) ggL_law_X4_meanView
set_option maxRecDepth 20000 in
theorem ggL_law_X4_phase : GoodIn wsL_law wsX4_phase := goodIn_r _ [331, 21, 153, 332, 181, 178, 182, 400, 401, 407, 408, 409, 410, 411] (by decide +kernel) (by decide +kernel)
set_option maxRecDepth 20000 in
theorem gL_law_X4_phase : GoodIn wsL_law (wsV RL 128 RX4 yX4_phase wsX4_phase) := goodIn_app (goodIn_of _ (by decide +kernel)) ggL_law_X4_phase
set_option maxRecDepth 20000 in
theorem ggL_law_X4_daysUntilFullMoon : GoodIn wsL_law wsX4_daysUntilFullMoon := goodIn_r _ [336, 21, 153, 337, 338, 178, 339, 180, 181, 182, 400, 401, 407, 408, 409, 410, 411] (by decide +kernel) (by decide +kernel)
set_option maxRecDepth 20000 in
theorem gL_law_X4_daysUntilFullMoon : GoodIn wsL_law (wsV RL 134 RX4 yX4_daysUntilFullMoon wsX4_daysUntilFullMoon) := goodIn_app (goodIn_of _ (by decide +kernel)) ggL_law_X4_daysUntilFullMoon
set_option maxRecDepth 20000 in
theorem ggL_law_X4_tickets : GoodIn wsL_law wsX4_tickets := goodIn_r _ [343, 21, 151, 152, 400, 401, 407, 408, 409, 410, 411, 419, 420, 421, 422, 423] (by decide +kernel) (by decide +kernel)
set_option maxRecDepth 20000 in
theorem gL_law_X4_tickets : GoodIn wsL_law (wsV RL 137 RX4 yX4_tickets wsX4_tickets) := goodIn_app (goodIn_of _ (by decide +kernel)) ggL_law_X4_tickets
set_option maxRecDepth 20000 in
theorem ggL_law_X4_isOpen : GoodIn wsL_law wsX4_isOpen := goodIn_ca (goodIn_r _ [347, 21, 151, 348, 349, 350, 351, 2, 352, 115, 116, 353, 354, 355, 32, 356, 54, 400, 401, 407, 408, 409, 410, 411, 419, 420, 421, 422, 423] (by decide +kernel) (by decide +kernel)) (goodIn_sub (fun _ h => List.mem_append_right _ h) (by decide +kernel))
set_option maxRecDepth 20000 in
theorem gL_law_X4_isOpen : GoodIn wsL_law (wsV RL 139 RX4 yX4_isOpen wsX4_isOpen) := goodIn_app (goodIn_of _ (by decide +kernel)) ggL_law_X4_isOpen
set_option maxRecDepth 20000 in
theorem ggL_law_X4_isPaidBack : GoodIn wsL_law wsX4_isPaidBack := goodIn_ca (goodIn_r _ [360, 21, 151, 348, 349, 350, 351, 2, 352, 115, 116, 353, 354, 355, 32, 356, 54, 400, 401, 407, 408, 409, 410, 411, 419, 420, 421, 422, 423] (by decide +kernel) (by decide +kernel)) (goodIn_sub (fun _ h => List.mem_append_right _ h) (by decide +kernel))
set_option maxRecDepth 20000 in
theorem gL_law_X4_isPaidBack : GoodIn wsL_law (wsV RL 142 RX4 yX4_isPaidBack wsX4_isPaidBack) := goodIn_app (goodIn_of _ (by decide +kernel)) ggL_law_X4_isPaidBack
set_option maxRecDepth 20000 in
theorem ggL_law_X4_dayOf : GoodIn wsL_law wsX4_dayOf := goodIn_ca (goodIn_r _ [364, 21, 151, 365, 349, 350, 351, 2, 352, 115, 116, 353, 354, 355, 32, 356, 54, 400, 401, 407, 408, 409, 410, 411, 419, 420, 421, 422, 423] (by decide +kernel) (by decide +kernel)) (goodIn_sub (fun _ h => List.mem_append_right _ h) (by decide +kernel))
set_option maxRecDepth 20000 in
theorem gL_law_X4_dayOf : GoodIn wsL_law (wsV RL 145 RX4 yX4_dayOf wsX4_dayOf) := goodIn_app (goodIn_of _ (by decide +kernel)) ggL_law_X4_dayOf
set_option maxRecDepth 20000 in
theorem ggL_law_X4_day : GoodIn wsL_law wsX4_day := goodIn_r _ [369, 21, 153, 400, 401, 407, 408, 409, 410, 411] (by decide +kernel) (by decide +kernel)
set_option maxRecDepth 20000 in
theorem gL_law_X4_day : GoodIn wsL_law (wsV RL 148 RX4 yX4_day wsX4_day) := goodIn_app (goodIn_of _ (by decide +kernel)) ggL_law_X4_day
set_option maxRecDepth 20000 in
theorem ggL_law_X4_purse : GoodIn wsL_law wsX4_purse := goodIn_r _ [373, 21, 131, 400, 401, 407, 408, 409, 410, 411] (by decide +kernel) (by decide +kernel)
set_option maxRecDepth 20000 in
theorem gL_law_X4_purse : GoodIn wsL_law (wsV RL 150 RX4 yX4_purse wsX4_purse) := goodIn_app (goodIn_of _ (by decide +kernel)) ggL_law_X4_purse
set_option maxRecDepth 20000 in
theorem gq_wsL_law_wsX4_pass_1 : GoodIn wsL_law ([.code yX4_pass cX4_pass 3 (some .int)] : List Cond) := goodIn_p ([.code yX4_pass cX4_pass 3 (some .int)] : List Cond) [161] rfl (by decide +kernel)
set_option maxRecDepth 20000 in
theorem gq_wsL_law_wsX4_pass_2 : GoodIn wsL_law wsX4_pass_r1 := goodIn_p wsX4_pass_r1 [164, 101, 168, 172] rfl (by decide +kernel)
set_option maxRecDepth 20000 in
theorem gq_wsL_law_wsX4_pass_3 : GoodIn wsL_law wsX4_pass_r2 := goodIn_p wsX4_pass_r2 [179, 182, 186, 190] rfl (by decide +kernel)
set_option maxRecDepth 20000 in
theorem gq_wsL_law_wsX4_pass_4 : GoodIn wsL_law wsX4_pass_r3 := goodIn_p wsX4_pass_r3 [194, 198, 202, 206, 210] rfl (by decide +kernel)
set_option maxRecDepth 20000 in
theorem gq_wsL_law_wsX4_pass_5 : GoodIn wsL_law wsX4_pass_r4 := goodIn_p wsX4_pass_r4 [135, 120, 215, 219] rfl (by decide +kernel)
set_option maxRecDepth 20000 in
theorem gq_wsL_law_wsX4_pass_6 : GoodIn wsL_law wsX4_pass_r5 := goodIn_p wsX4_pass_r5 [223, 228] rfl (by decide +kernel)
set_option maxRecDepth 20000 in
theorem gq_wsL_law_wsX4_pass_7 : GoodIn wsL_law wsX40 := goodIn_p wsX40 [] rfl (by decide +kernel)
set_option maxRecDepth 20000 in
theorem gq_wsL_law_wsX4_pass_8 : GoodIn wsL_law wsX10 := goodIn_p wsX10 [] rfl (by decide +kernel)
set_option maxRecDepth 20000 in
theorem gq_wsL_law_wsX4_pass_9 : GoodIn wsL_law wsX20 := goodIn_p wsX20 [] rfl (by decide +kernel)
set_option maxRecDepth 20000 in
theorem gq_wsL_law_wsX4_pass_10 : GoodIn wsL_law wsX30 := goodIn_p wsX30 [] rfl (by decide +kernel)
set_option maxRecDepth 20000 in
theorem ggL_law_X4_pass : GoodIn wsL_law wsX4_pass := goodIn_ca (zz_gc gq_wsL_law_wsX4_pass_1 (goodIn_app (goodIn_app (goodIn_app (goodIn_app (goodIn_app gq_wsL_law_wsX4_pass_2 (goodIn_app gq_wsL_law_wsX4_pass_3 (goodIn_app gq_wsL_law_wsX4_pass_4 (goodIn_app gq_wsL_law_wsX4_pass_5 gq_wsL_law_wsX4_pass_6)))) gq_wsL_law_wsX4_pass_7) gq_wsL_law_wsX4_pass_8) gq_wsL_law_wsX4_pass_9) gq_wsL_law_wsX4_pass_10)) (goodIn_sub (fun _ h => List.mem_append_left _ (List.mem_append_left _ (List.mem_append_right _ h))) (by decide +kernel))
set_option maxRecDepth 20000 in
theorem gL_law_X4_pass : GoodIn wsL_law (wsV RL 65 RX4 yX4_pass wsX4_pass) := goodIn_app (goodIn_of _ (by decide +kernel)) ggL_law_X4_pass
set_option maxRecDepth 20000 in
theorem ggL_law_X5_pass : GoodIn wsL_law wsX5_pass := goodIn_r _ [236, 237, 65, 67, 68, 238, 239, 240, 241, 61, 242, 4, 243, 244, 245, 246, 247, 248, 249, 250, 251, 252, 253, 402, 403, 404, 405, 406] (by decide +kernel) (by decide +kernel)
set_option maxRecDepth 20000 in
theorem gL_law_X5_pass : GoodIn wsL_law (wsV RL 152 RX5 yX5_pass wsX5_pass) := goodIn_app (goodIn_of _ (by decide +kernel)) ggL_law_X5_pass
set_option maxRecDepth 20000 in
theorem gq_wsL_law_wsX5_isSame_1 : GoodIn wsL_law ([.code yX5_isSame cX5_isSame 9 (some .boolean)] : List Cond) := goodIn_p ([.code yX5_isSame cX5_isSame 9 (some .boolean)] : List Cond) [378] rfl (by decide +kernel)
set_option maxRecDepth 20000 in
theorem gq_wsL_law_wsX5_isSame_2 : GoodIn wsL_law wsX5_isSame_r1 := goodIn_p wsX5_isSame_r1 [242, 246, 250, 253] rfl (by decide +kernel)
set_option maxRecDepth 20000 in
theorem gq_wsL_law_wsX5_isSame_3 : GoodIn wsL_law wsX5_isSame_r2 := goodIn_p wsX5_isSame_r2 [369, 331, 182, 311, 179] rfl (by decide +kernel)
set_option maxRecDepth 20000 in
theorem gq_wsL_law_wsX5_isSame_4 : GoodIn wsL_law wsX5_isSame_r3 := goodIn_p wsX5_isSame_r3 [336, 339, 257, 261, 265] rfl (by decide +kernel)
set_option maxRecDepth 20000 in
theorem gq_wsL_law_wsX5_isSame_5 : GoodIn wsL_law wsX5_isSame_r4 := goodIn_p wsX5_isSame_r4 [373, 343, 315, 101, 287] rfl (by decide +kernel)
set_option maxRecDepth 20000 in
theorem gq_wsL_law_wsX5_isSame_6 : GoodIn wsL_law wsX5_isSame_r5 := goodIn_p wsX5_isSame_r5 [186, 190, 194, 198] rfl (by decide +kernel)
set_option maxRecDepth 20000 in
theorem gq_wsL_law_wsX5_isSame_7 : GoodIn wsL_law wsX5_isSame_r6 := goodIn_p wsX5_isSame_r6 [202, 319, 282, 114, 120, 301] rfl (by decide +kernel)
set_option maxRecDepth 20000 in
theorem gq_wsL_law_wsX5_isSame_8 : GoodIn wsL_law wsX5_isSame_r7 := goodIn_p wsX5_isSame_r7 [206, 269, 273, 277, 306] rfl (by decide +kernel)
set_option maxRecDepth 20000 in
theorem gq_wsL_law_wsX5_isSame_9 : GoodIn wsL_law wsX5_isSame_r8 := goodIn_p wsX5_isSame_r8 [295, 291, 135, 364, 352] rfl (by decide +kernel)
set_option maxRecDepth 20000 in
theorem gq_wsL_law_wsX5_isSame_10 : GoodIn wsL_law wsX5_isSame_r9 := goodIn_p wsX5_isSame_r9 [356, 347, 360, 323, 327] rfl (by decide +kernel)
set_option maxRecDepth 20000 in
theorem gq_wsL_law_wsX5_isSame_11 : GoodIn wsL_law wsX50 := goodIn_p wsX50 [] rfl (by decide +kernel)
set_option maxRecDepth 20000 in
theorem gq_wsL_law_wsX5_isSame_12 : GoodIn wsL_law wsX40 := goodIn_p wsX40 [] rfl (by decide +kernel)
set_option maxRecDepth 20000 in
theorem gq_wsL_law_wsX5_isSame_13 : GoodIn wsL_law wsX10 := goodIn_p wsX10 [] rfl (by decide +kernel)
set_option maxRecDepth 20000 in
theorem gq_wsL_law_wsX5_isSame_14 : GoodIn wsL_law wsX20 := goodIn_p wsX20 [] rfl (by decide +kernel)
set_option maxRecDepth 20000 in
theorem gq_wsL_law_wsX5_isSame_15 : GoodIn wsL_law wsX30 := goodIn_p wsX30 [] rfl (by decide +kernel)
set_option maxRecDepth 20000 in
theorem ggL_law_X5_isSame : GoodIn wsL_law wsX5_isSame := goodIn_ca (zz_gc gq_wsL_law_wsX5_isSame_1 (goodIn_app (goodIn_app (goodIn_app (goodIn_app (goodIn_app (goodIn_app gq_wsL_law_wsX5_isSame_2 (goodIn_app gq_wsL_law_wsX5_isSame_3 (goodIn_app gq_wsL_law_wsX5_isSame_4 (goodIn_app gq_wsL_law_wsX5_isSame_5 (goodIn_app gq_wsL_law_wsX5_isSame_6 (goodIn_app gq_wsL_law_wsX5_isSame_7 (goodIn_app gq_wsL_law_wsX5_isSame_8 (goodIn_app gq_wsL_law_wsX5_isSame_9 gq_wsL_law_wsX5_isSame_10)))))))) gq_wsL_law_wsX5_isSame_11) gq_wsL_law_wsX5_isSame_12) gq_wsL_law_wsX5_isSame_13) gq_wsL_law_wsX5_isSame_14) gq_wsL_law_wsX5_isSame_15)) (goodIn_sub (fun _ h => List.mem_append_right _ h) (by decide +kernel))
set_option maxRecDepth 20000 in
theorem gL_law_X5_isSame : GoodIn wsL_law (wsV RL 154 RX5 yX5_isSame wsX5_isSame) := goodIn_app (goodIn_of _ (by decide +kernel)) ggL_law_X5_isSame
theorem dL_law_0 : decode cL_law 0 = .ok (.new 26, 3) := by decide +kernel
theorem dL_law_3 : decode cL_law 3 = .ok (.dup, 1) := by decide +kernel
theorem dL_law_4 : decode cL_law 4 = .ok (.invokespecial 80, 3) := by decide +kernel
theorem dL_law_7 : decode cL_law 7 = .ok (.astore_n 1, 1) := by decide +kernel
theorem dL_law_8 : decode cL_law 8 = .ok (.aload_n 1, 1) := by decide +kernel
theorem dL_law_9 : decode cL_law 9 = .ok (.aload_n 0, 1) := by decide +kernel
theorem dL_law_10 : decode cL_law 10 = .ok (.invokestatic 81, 3) := by decide +kernel
theorem dL_law_13 : decode cL_law 13 = .ok (.astore_n 2, 1) := by decide +kernel
theorem dL_law_14 : decode cL_law 14 = .ok (.aload_n 2, 1) := by decide +kernel
theorem dL_law_15 : decode cL_law 15 = .ok (.ifnonnull 5, 3) := by decide +kernel
theorem dL_law_18 : decode cL_law 18 = .ok (.iconst 0, 1) := by decide +kernel
theorem dL_law_19 : decode cL_law 19 = .ok (.ireturn, 1) := by decide +kernel
theorem dL_law_20 : decode cL_law 20 = .ok (.iconst 0, 1) := by decide +kernel
theorem dL_law_21 : decode cL_law 21 = .ok (.istore_n 3, 1) := by decide +kernel
theorem dL_law_22 : decode cL_law 22 = .ok (.iload_n 3, 1) := by decide +kernel
theorem dL_law_23 : decode cL_law 23 = .ok (.bipush 32, 2) := by decide +kernel
theorem dL_law_25 : decode cL_law 25 = .ok (.if_icmp .ge 1169, 3) := by decide +kernel
theorem dL_law_28 : decode cL_law 28 = .ok (.aload_n 0, 1) := by decide +kernel
theorem dL_law_29 : decode cL_law 29 = .ok (.iload_n 3, 1) := by decide +kernel
theorem dL_law_30 : decode cL_law 30 = .ok (.bipush 16, 2) := by decide +kernel
theorem dL_law_32 : decode cL_law 32 = .ok (.irem, 1) := by decide +kernel
theorem dL_law_33 : decode cL_law 33 = .ok (.invokestatic 72, 3) := by decide +kernel
theorem dL_law_36 : decode cL_law 36 = .ok (.iload_n 3, 1) := by decide +kernel
theorem dL_law_37 : decode cL_law 37 = .ok (.bipush 16, 2) := by decide +kernel
theorem dL_law_39 : decode cL_law 39 = .ok (.idiv, 1) := by decide +kernel
theorem dL_law_40 : decode cL_law 40 = .ok (.iconst 3, 1) := by decide +kernel
theorem dL_law_41 : decode cL_law 41 = .ok (.imul, 1) := by decide +kernel
theorem dL_law_42 : decode cL_law 42 = .ok (.ishr, 1) := by decide +kernel
theorem dL_law_43 : decode cL_law 43 = .ok (.sipush 617, 3) := by decide +kernel
theorem dL_law_46 : decode cL_law 46 = .ok (.iload_n 3, 1) := by decide +kernel
theorem dL_law_47 : decode cL_law 47 = .ok (.imul, 1) := by decide +kernel
theorem dL_law_48 : decode cL_law 48 = .ok (.iadd, 1) := by decide +kernel
theorem dL_law_49 : decode cL_law 49 = .ok (.istore 4, 2) := by decide +kernel
theorem dL_law_51 : decode cL_law 51 = .ok (.aload_n 1, 1) := by decide +kernel
theorem dL_law_52 : decode cL_law 52 = .ok (.aload_n 2, 1) := by decide +kernel
theorem dL_law_53 : decode cL_law 53 = .ok (.iload 4, 2) := by decide +kernel
theorem dL_law_55 : decode cL_law 55 = .ok (.invokestatic 76, 3) := by decide +kernel
theorem dL_law_58 : decode cL_law 58 = .ok (.ifCond .ne 5, 3) := by decide +kernel
theorem dL_law_61 : decode cL_law 61 = .ok (.iconst 0, 1) := by decide +kernel
theorem dL_law_62 : decode cL_law 62 = .ok (.ireturn, 1) := by decide +kernel
theorem dL_law_63 : decode cL_law 63 = .ok (.aload_n 1, 1) := by decide +kernel
theorem dL_law_64 : decode cL_law 64 = .ok (.invokevirtual 85, 3) := by decide +kernel
theorem dL_law_67 : decode cL_law 67 = .ok (.istore 5, 2) := by decide +kernel
theorem dL_law_69 : decode cL_law 69 = .ok (.aload_n 1, 1) := by decide +kernel
theorem dL_law_70 : decode cL_law 70 = .ok (.invokevirtual 88, 3) := by decide +kernel
theorem dL_law_73 : decode cL_law 73 = .ok (.istore 6, 2) := by decide +kernel
theorem dL_law_75 : decode cL_law 75 = .ok (.iconst 0, 1) := by decide +kernel
theorem dL_law_76 : decode cL_law 76 = .ok (.istore 7, 2) := by decide +kernel
theorem dL_law_78 : decode cL_law 78 = .ok (.iconst 0, 1) := by decide +kernel
theorem dL_law_79 : decode cL_law 79 = .ok (.istore 8, 2) := by decide +kernel
theorem dL_law_81 : decode cL_law 81 = .ok (.iconst 0, 1) := by decide +kernel
theorem dL_law_82 : decode cL_law 82 = .ok (.istore 9, 2) := by decide +kernel
theorem dL_law_84 : decode cL_law 84 = .ok (.iconst 0, 1) := by decide +kernel
theorem dL_law_85 : decode cL_law 85 = .ok (.istore 10, 2) := by decide +kernel
theorem dL_law_87 : decode cL_law 87 = .ok (.iload 5, 2) := by decide +kernel
theorem dL_law_89 : decode cL_law 89 = .ok (.anewarray 91, 3) := by decide +kernel
theorem dL_law_92 : decode cL_law 92 = .ok (.astore 11, 2) := by decide +kernel
theorem dL_law_94 : decode cL_law 94 = .ok (.iconst 0, 1) := by decide +kernel
theorem dL_law_95 : decode cL_law 95 = .ok (.istore 12, 2) := by decide +kernel
theorem dL_law_97 : decode cL_law 97 = .ok (.iload 12, 2) := by decide +kernel
theorem dL_law_99 : decode cL_law 99 = .ok (.iload 5, 2) := by decide +kernel
theorem dL_law_101 : decode cL_law 101 = .ok (.if_icmp .ge 346, 3) := by decide +kernel
theorem dL_law_104 : decode cL_law 104 = .ok (.aload 11, 2) := by decide +kernel
theorem dL_law_106 : decode cL_law 106 = .ok (.iload 12, 2) := by decide +kernel
theorem dL_law_108 : decode cL_law 108 = .ok (.iconst 4, 1) := by decide +kernel
theorem dL_law_109 : decode cL_law 109 = .ok (.newarray .int, 2) := by decide +kernel
theorem dL_law_111 : decode cL_law 111 = .ok (.dup, 1) := by decide +kernel
theorem dL_law_112 : decode cL_law 112 = .ok (.iconst 0, 1) := by decide +kernel
theorem dL_law_113 : decode cL_law 113 = .ok (.aload_n 1, 1) := by decide +kernel
theorem dL_law_114 : decode cL_law 114 = .ok (.iload 12, 2) := by decide +kernel
theorem dL_law_116 : decode cL_law 116 = .ok (.invokevirtual 93, 3) := by decide +kernel
theorem dL_law_119 : decode cL_law 119 = .ok (.iastore, 1) := by decide +kernel
theorem dL_law_120 : decode cL_law 120 = .ok (.dup, 1) := by decide +kernel
theorem dL_law_121 : decode cL_law 121 = .ok (.iconst 1, 1) := by decide +kernel
theorem dL_law_122 : decode cL_law 122 = .ok (.aload_n 1, 1) := by decide +kernel
theorem dL_law_123 : decode cL_law 123 = .ok (.iload 12, 2) := by decide +kernel
theorem dL_law_125 : decode cL_law 125 = .ok (.invokevirtual 96, 3) := by decide +kernel
theorem dL_law_128 : decode cL_law 128 = .ok (.iastore, 1) := by decide +kernel
theorem dL_law_129 : decode cL_law 129 = .ok (.dup, 1) := by decide +kernel
theorem dL_law_130 : decode cL_law 130 = .ok (.iconst 2, 1) := by decide +kernel
theorem dL_law_131 : decode cL_law 131 = .ok (.aload_n 1, 1) := by decide +kernel
theorem dL_law_132 : decode cL_law 132 = .ok (.iload 12, 2) := by decide +kernel
theorem dL_law_134 : decode cL_law 134 = .ok (.invokevirtual 99, 3) := by decide +kernel
theorem dL_law_137 : decode cL_law 137 = .ok (.iastore, 1) := by decide +kernel
theorem dL_law_138 : decode cL_law 138 = .ok (.dup, 1) := by decide +kernel
theorem dL_law_139 : decode cL_law 139 = .ok (.iconst 3, 1) := by decide +kernel
theorem dL_law_140 : decode cL_law 140 = .ok (.aload_n 1, 1) := by decide +kernel
theorem dL_law_141 : decode cL_law 141 = .ok (.iload 12, 2) := by decide +kernel
theorem dL_law_143 : decode cL_law 143 = .ok (.invokevirtual 102, 3) := by decide +kernel
theorem dL_law_146 : decode cL_law 146 = .ok (.iastore, 1) := by decide +kernel
theorem dL_law_147 : decode cL_law 147 = .ok (.aastore, 1) := by decide +kernel
theorem dL_law_148 : decode cL_law 148 = .ok (.aload_n 1, 1) := by decide +kernel
theorem dL_law_149 : decode cL_law 149 = .ok (.iload 12, 2) := by decide +kernel
theorem dL_law_151 : decode cL_law 151 = .ok (.invokevirtual 105, 3) := by decide +kernel
theorem dL_law_154 : decode cL_law 154 = .ok (.ifCond .ne 7, 3) := by decide +kernel
theorem dL_law_157 : decode cL_law 157 = .ok (.iconst 1, 1) := by decide +kernel
theorem dL_law_158 : decode cL_law 158 = .ok (.goto 4, 3) := by decide +kernel
theorem dL_law_161 : decode cL_law 161 = .ok (.iconst 0, 1) := by decide +kernel
theorem dL_law_162 : decode cL_law 162 = .ok (.istore 13, 2) := by decide +kernel
theorem dL_law_164 : decode cL_law 164 = .ok (.iload 7, 2) := by decide +kernel
theorem dL_law_166 : decode cL_law 166 = .ok (.iload 13, 2) := by decide +kernel
theorem dL_law_168 : decode cL_law 168 = .ok (.ifCond .eq 7, 3) := by decide +kernel
theorem dL_law_171 : decode cL_law 171 = .ok (.iconst 1, 1) := by decide +kernel
theorem dL_law_172 : decode cL_law 172 = .ok (.goto 4, 3) := by decide +kernel
theorem dL_law_175 : decode cL_law 175 = .ok (.iconst 0, 1) := by decide +kernel
theorem dL_law_176 : decode cL_law 176 = .ok (.iadd, 1) := by decide +kernel
theorem dL_law_177 : decode cL_law 177 = .ok (.istore 7, 2) := by decide +kernel
theorem dL_law_179 : decode cL_law 179 = .ok (.iload 8, 2) := by decide +kernel
theorem dL_law_181 : decode cL_law 181 = .ok (.aload_n 1, 1) := by decide +kernel
theorem dL_law_182 : decode cL_law 182 = .ok (.iload 12, 2) := by decide +kernel
theorem dL_law_184 : decode cL_law 184 = .ok (.invokevirtual 109, 3) := by decide +kernel
theorem dL_law_187 : decode cL_law 187 = .ok (.iadd, 1) := by decide +kernel
theorem dL_law_188 : decode cL_law 188 = .ok (.istore 8, 2) := by decide +kernel
theorem dL_law_190 : decode cL_law 190 = .ok (.iload 9, 2) := by decide +kernel
theorem dL_law_192 : decode cL_law 192 = .ok (.aload_n 1, 1) := by decide +kernel
theorem dL_law_193 : decode cL_law 193 = .ok (.iload 12, 2) := by decide +kernel
theorem dL_law_195 : decode cL_law 195 = .ok (.invokevirtual 112, 3) := by decide +kernel
theorem dL_law_198 : decode cL_law 198 = .ok (.iadd, 1) := by decide +kernel
theorem dL_law_199 : decode cL_law 199 = .ok (.istore 9, 2) := by decide +kernel
theorem dL_law_201 : decode cL_law 201 = .ok (.iload 10, 2) := by decide +kernel
theorem dL_law_203 : decode cL_law 203 = .ok (.aload_n 1, 1) := by decide +kernel
theorem dL_law_204 : decode cL_law 204 = .ok (.iload 12, 2) := by decide +kernel
theorem dL_law_206 : decode cL_law 206 = .ok (.invokevirtual 112, 3) := by decide +kernel
theorem dL_law_209 : decode cL_law 209 = .ok (.aload_n 2, 1) := by decide +kernel
theorem dL_law_210 : decode cL_law 210 = .ok (.getfield 9, 3) := by decide +kernel
theorem dL_law_213 : decode cL_law 213 = .ok (.iload 12, 2) := by decide +kernel
theorem dL_law_215 : decode cL_law 215 = .ok (.aaload, 1) := by decide +kernel
theorem dL_law_216 : decode cL_law 216 = .ok (.iconst 3, 1) := by decide +kernel
theorem dL_law_217 : decode cL_law 217 = .ok (.iaload, 1) := by decide +kernel
theorem dL_law_218 : decode cL_law 218 = .ok (.imul, 1) := by decide +kernel
theorem dL_law_219 : decode cL_law 219 = .ok (.iadd, 1) := by decide +kernel
theorem dL_law_220 : decode cL_law 220 = .ok (.istore 10, 2) := by decide +kernel
theorem dL_law_222 : decode cL_law 222 = .ok (.aload 11, 2) := by decide +kernel
theorem dL_law_224 : decode cL_law 224 = .ok (.iload 12, 2) := by decide +kernel
theorem dL_law_226 : decode cL_law 226 = .ok (.aaload, 1) := by decide +kernel
theorem dL_law_227 : decode cL_law 227 = .ok (.iconst 0, 1) := by decide +kernel
theorem dL_law_228 : decode cL_law 228 = .ok (.iaload, 1) := by decide +kernel
theorem dL_law_229 : decode cL_law 229 = .ok (.ifCond .lt 210, 3) := by decide +kernel
theorem dL_law_232 : decode cL_law 232 = .ok (.aload 11, 2) := by decide +kernel
theorem dL_law_234 : decode cL_law 234 = .ok (.iload 12, 2) := by decide +kernel
theorem dL_law_236 : decode cL_law 236 = .ok (.aaload, 1) := by decide +kernel
theorem dL_law_237 : decode cL_law 237 = .ok (.iconst 0, 1) := by decide +kernel
theorem dL_law_238 : decode cL_law 238 = .ok (.iaload, 1) := by decide +kernel
theorem dL_law_239 : decode cL_law 239 = .ok (.bipush 20, 2) := by decide +kernel
theorem dL_law_241 : decode cL_law 241 = .ok (.if_icmp .gt 198, 3) := by decide +kernel
theorem dL_law_244 : decode cL_law 244 = .ok (.aload 11, 2) := by decide +kernel
theorem dL_law_246 : decode cL_law 246 = .ok (.iload 12, 2) := by decide +kernel
theorem dL_law_248 : decode cL_law 248 = .ok (.aaload, 1) := by decide +kernel
theorem dL_law_249 : decode cL_law 249 = .ok (.iconst 1, 1) := by decide +kernel
theorem dL_law_250 : decode cL_law 250 = .ok (.iaload, 1) := by decide +kernel
theorem dL_law_251 : decode cL_law 251 = .ok (.ifCond .lt 188, 3) := by decide +kernel
theorem dL_law_254 : decode cL_law 254 = .ok (.aload 11, 2) := by decide +kernel
theorem dL_law_256 : decode cL_law 256 = .ok (.iload 12, 2) := by decide +kernel
theorem dL_law_258 : decode cL_law 258 = .ok (.aaload, 1) := by decide +kernel
theorem dL_law_259 : decode cL_law 259 = .ok (.iconst 1, 1) := by decide +kernel
theorem dL_law_260 : decode cL_law 260 = .ok (.iaload, 1) := by decide +kernel
theorem dL_law_261 : decode cL_law 261 = .ok (.bipush 12, 2) := by decide +kernel
theorem dL_law_263 : decode cL_law 263 = .ok (.if_icmp .gt 176, 3) := by decide +kernel
theorem dL_law_266 : decode cL_law 266 = .ok (.aload 11, 2) := by decide +kernel
theorem dL_law_268 : decode cL_law 268 = .ok (.iload 12, 2) := by decide +kernel
theorem dL_law_270 : decode cL_law 270 = .ok (.aaload, 1) := by decide +kernel
theorem dL_law_271 : decode cL_law 271 = .ok (.iconst 2, 1) := by decide +kernel
theorem dL_law_272 : decode cL_law 272 = .ok (.iaload, 1) := by decide +kernel
theorem dL_law_273 : decode cL_law 273 = .ok (.ifCond .lt 166, 3) := by decide +kernel
theorem dL_law_276 : decode cL_law 276 = .ok (.aload 11, 2) := by decide +kernel
theorem dL_law_278 : decode cL_law 278 = .ok (.iload 12, 2) := by decide +kernel
theorem dL_law_280 : decode cL_law 280 = .ok (.aaload, 1) := by decide +kernel
theorem dL_law_281 : decode cL_law 281 = .ok (.iconst 2, 1) := by decide +kernel
theorem dL_law_282 : decode cL_law 282 = .ok (.iaload, 1) := by decide +kernel
theorem dL_law_283 : decode cL_law 283 = .ok (.iconst 5, 1) := by decide +kernel
theorem dL_law_284 : decode cL_law 284 = .ok (.if_icmp .gt 155, 3) := by decide +kernel
theorem dL_law_287 : decode cL_law 287 = .ok (.iload 13, 2) := by decide +kernel
theorem dL_law_289 : decode cL_law 289 = .ok (.aload 11, 2) := by decide +kernel
theorem dL_law_291 : decode cL_law 291 = .ok (.iload 12, 2) := by decide +kernel
theorem dL_law_293 : decode cL_law 293 = .ok (.aaload, 1) := by decide +kernel
theorem dL_law_294 : decode cL_law 294 = .ok (.iconst 0, 1) := by decide +kernel
theorem dL_law_295 : decode cL_law 295 = .ok (.iaload, 1) := by decide +kernel
theorem dL_law_296 : decode cL_law 296 = .ok (.ifCond .le 7, 3) := by decide +kernel
theorem dL_law_299 : decode cL_law 299 = .ok (.iconst 1, 1) := by decide +kernel
theorem dL_law_300 : decode cL_law 300 = .ok (.goto 4, 3) := by decide +kernel
theorem dL_law_303 : decode cL_law 303 = .ok (.iconst 0, 1) := by decide +kernel
theorem dL_law_304 : decode cL_law 304 = .ok (.if_icmp .ne 135, 3) := by decide +kernel
theorem dL_law_307 : decode cL_law 307 = .ok (.aload 11, 2) := by decide +kernel
theorem dL_law_309 : decode cL_law 309 = .ok (.iload 12, 2) := by decide +kernel
theorem dL_law_311 : decode cL_law 311 = .ok (.aaload, 1) := by decide +kernel
theorem dL_law_312 : decode cL_law 312 = .ok (.iconst 3, 1) := by decide +kernel
theorem dL_law_313 : decode cL_law 313 = .ok (.iaload, 1) := by decide +kernel
theorem dL_law_314 : decode cL_law 314 = .ok (.ifCond .lt 7, 3) := by decide +kernel
theorem dL_law_317 : decode cL_law 317 = .ok (.iconst 1, 1) := by decide +kernel
theorem dL_law_318 : decode cL_law 318 = .ok (.goto 4, 3) := by decide +kernel
theorem dL_law_321 : decode cL_law 321 = .ok (.iconst 0, 1) := by decide +kernel
theorem dL_law_322 : decode cL_law 322 = .ok (.iload 13, 2) := by decide +kernel
theorem dL_law_324 : decode cL_law 324 = .ok (.if_icmp .ne 115, 3) := by decide +kernel
theorem dL_law_327 : decode cL_law 327 = .ok (.aload 11, 2) := by decide +kernel
theorem dL_law_329 : decode cL_law 329 = .ok (.iload 12, 2) := by decide +kernel
theorem dL_law_331 : decode cL_law 331 = .ok (.aaload, 1) := by decide +kernel
theorem dL_law_332 : decode cL_law 332 = .ok (.iconst 3, 1) := by decide +kernel
theorem dL_law_333 : decode cL_law 333 = .ok (.iaload, 1) := by decide +kernel
theorem dL_law_334 : decode cL_law 334 = .ok (.iload 6, 2) := by decide +kernel
theorem dL_law_336 : decode cL_law 336 = .ok (.if_icmp .ge 103, 3) := by decide +kernel
theorem dL_law_339 : decode cL_law 339 = .ok (.aload_n 1, 1) := by decide +kernel
theorem dL_law_340 : decode cL_law 340 = .ok (.iload 12, 2) := by decide +kernel
theorem dL_law_342 : decode cL_law 342 = .ok (.invokevirtual 109, 3) := by decide +kernel
theorem dL_law_345 : decode cL_law 345 = .ok (.iload 13, 2) := by decide +kernel
theorem dL_law_347 : decode cL_law 347 = .ok (.ifCond .eq 37, 3) := by decide +kernel
theorem dL_law_350 : decode cL_law 350 = .ok (.iconst 2, 1) := by decide +kernel
theorem dL_law_351 : decode cL_law 351 = .ok (.aload 11, 2) := by decide +kernel
theorem dL_law_353 : decode cL_law 353 = .ok (.iload 12, 2) := by decide +kernel
theorem dL_law_355 : decode cL_law 355 = .ok (.aaload, 1) := by decide +kernel
theorem dL_law_356 : decode cL_law 356 = .ok (.iconst 0, 1) := by decide +kernel
theorem dL_law_357 : decode cL_law 357 = .ok (.iaload, 1) := by decide +kernel
theorem dL_law_358 : decode cL_law 358 = .ok (.imul, 1) := by decide +kernel
theorem dL_law_359 : decode cL_law 359 = .ok (.iconst 3, 1) := by decide +kernel
theorem dL_law_360 : decode cL_law 360 = .ok (.aload_n 1, 1) := by decide +kernel
theorem dL_law_361 : decode cL_law 361 = .ok (.iload 12, 2) := by decide +kernel
theorem dL_law_363 : decode cL_law 363 = .ok (.invokevirtual 115, 3) := by decide +kernel
theorem dL_law_366 : decode cL_law 366 = .ok (.imul, 1) := by decide +kernel
theorem dL_law_367 : decode cL_law 367 = .ok (.iadd, 1) := by decide +kernel
theorem dL_law_368 : decode cL_law 368 = .ok (.aload 11, 2) := by decide +kernel
theorem dL_law_370 : decode cL_law 370 = .ok (.iload 12, 2) := by decide +kernel
theorem dL_law_372 : decode cL_law 372 = .ok (.aaload, 1) := by decide +kernel
theorem dL_law_373 : decode cL_law 373 = .ok (.iconst 2, 1) := by decide +kernel
theorem dL_law_374 : decode cL_law 374 = .ok (.iaload, 1) := by decide +kernel
theorem dL_law_375 : decode cL_law 375 = .ok (.aload_n 1, 1) := by decide +kernel
theorem dL_law_376 : decode cL_law 376 = .ok (.invokevirtual 118, 3) := by decide +kernel
theorem dL_law_379 : decode cL_law 379 = .ok (.imul, 1) := by decide +kernel
theorem dL_law_380 : decode cL_law 380 = .ok (.iadd, 1) := by decide +kernel
theorem dL_law_381 : decode cL_law 381 = .ok (.goto 4, 3) := by decide +kernel
theorem dL_law_384 : decode cL_law 384 = .ok (.iconst 0, 1) := by decide +kernel
theorem dL_law_385 : decode cL_law 385 = .ok (.if_icmp .ne 54, 3) := by decide +kernel
theorem dL_law_388 : decode cL_law 388 = .ok (.aload_n 1, 1) := by decide +kernel
theorem dL_law_389 : decode cL_law 389 = .ok (.iload 12, 2) := by decide +kernel
theorem dL_law_391 : decode cL_law 391 = .ok (.invokevirtual 115, 3) := by decide +kernel
theorem dL_law_394 : decode cL_law 394 = .ok (.ifCond .lt 45, 3) := by decide +kernel
theorem dL_law_397 : decode cL_law 397 = .ok (.aload_n 1, 1) := by decide +kernel
theorem dL_law_398 : decode cL_law 398 = .ok (.iload 12, 2) := by decide +kernel
theorem dL_law_400 : decode cL_law 400 = .ok (.invokevirtual 115, 3) := by decide +kernel
theorem dL_law_403 : decode cL_law 403 = .ok (.iconst 3, 1) := by decide +kernel
theorem dL_law_404 : decode cL_law 404 = .ok (.if_icmp .gt 35, 3) := by decide +kernel
theorem dL_law_407 : decode cL_law 407 = .ok (.aload_n 1, 1) := by decide +kernel
theorem dL_law_408 : decode cL_law 408 = .ok (.iload 12, 2) := by decide +kernel
theorem dL_law_410 : decode cL_law 410 = .ok (.invokevirtual 115, 3) := by decide +kernel
theorem dL_law_413 : decode cL_law 413 = .ok (.ifCond .ne 7, 3) := by decide +kernel
theorem dL_law_416 : decode cL_law 416 = .ok (.iconst 1, 1) := by decide +kernel
theorem dL_law_417 : decode cL_law 417 = .ok (.goto 4, 3) := by decide +kernel
theorem dL_law_420 : decode cL_law 420 = .ok (.iconst 0, 1) := by decide +kernel
theorem dL_law_421 : decode cL_law 421 = .ok (.aload 11, 2) := by decide +kernel
theorem dL_law_423 : decode cL_law 423 = .ok (.iload 12, 2) := by decide +kernel
theorem dL_law_425 : decode cL_law 425 = .ok (.aaload, 1) := by decide +kernel
theorem dL_law_426 : decode cL_law 426 = .ok (.iconst 1, 1) := by decide +kernel
theorem dL_law_427 : decode cL_law 427 = .ok (.iaload, 1) := by decide +kernel
theorem dL_law_428 : decode cL_law 428 = .ok (.ifCond .ne 7, 3) := by decide +kernel
theorem dL_law_431 : decode cL_law 431 = .ok (.iconst 1, 1) := by decide +kernel
theorem dL_law_432 : decode cL_law 432 = .ok (.goto 4, 3) := by decide +kernel
theorem dL_law_435 : decode cL_law 435 = .ok (.iconst 0, 1) := by decide +kernel
theorem dL_law_436 : decode cL_law 436 = .ok (.if_icmp .eq 5, 3) := by decide +kernel
theorem dL_law_439 : decode cL_law 439 = .ok (.iconst 0, 1) := by decide +kernel
theorem dL_law_440 : decode cL_law 440 = .ok (.ireturn, 1) := by decide +kernel
theorem dL_law_441 : decode cL_law 441 = .ok (.iinc 12 1, 3) := by decide +kernel
theorem dL_law_444 : decode cL_law 444 = .ok (.goto (-347), 3) := by decide +kernel
theorem dL_law_447 : decode cL_law 447 = .ok (.iconst 0, 1) := by decide +kernel
theorem dL_law_448 : decode cL_law 448 = .ok (.istore 12, 2) := by decide +kernel
theorem dL_law_450 : decode cL_law 450 = .ok (.iload 12, 2) := by decide +kernel
theorem dL_law_452 : decode cL_law 452 = .ok (.iload 6, 2) := by decide +kernel
theorem dL_law_454 : decode cL_law 454 = .ok (.if_icmp .ge 77, 3) := by decide +kernel
theorem dL_law_457 : decode cL_law 457 = .ok (.aload_n 1, 1) := by decide +kernel
theorem dL_law_458 : decode cL_law 458 = .ok (.iload 12, 2) := by decide +kernel
theorem dL_law_460 : decode cL_law 460 = .ok (.invokevirtual 121, 3) := by decide +kernel
theorem dL_law_463 : decode cL_law 463 = .ok (.istore 13, 2) := by decide +kernel
theorem dL_law_465 : decode cL_law 465 = .ok (.aload_n 1, 1) := by decide +kernel
theorem dL_law_466 : decode cL_law 466 = .ok (.iload 13, 2) := by decide +kernel
theorem dL_law_468 : decode cL_law 468 = .ok (.invokevirtual 102, 3) := by decide +kernel
theorem dL_law_471 : decode cL_law 471 = .ok (.iload 12, 2) := by decide +kernel
theorem dL_law_473 : decode cL_law 473 = .ok (.if_icmp .ne 50, 3) := by decide +kernel
theorem dL_law_476 : decode cL_law 476 = .ok (.iload 12, 2) := by decide +kernel
theorem dL_law_478 : decode cL_law 478 = .ok (.ifCond .le 47, 3) := by decide +kernel
theorem dL_law_481 : decode cL_law 481 = .ok (.aload_n 1, 1) := by decide +kernel
theorem dL_law_482 : decode cL_law 482 = .ok (.iload 13, 2) := by decide +kernel
theorem dL_law_484 : decode cL_law 484 = .ok (.invokevirtual 109, 3) := by decide +kernel
theorem dL_law_487 : decode cL_law 487 = .ok (.aload_n 1, 1) := by decide +kernel
theorem dL_law_488 : decode cL_law 488 = .ok (.aload_n 1, 1) := by decide +kernel
theorem dL_law_489 : decode cL_law 489 = .ok (.iload 12, 2) := by decide +kernel
theorem dL_law_491 : decode cL_law 491 = .ok (.iconst 1, 1) := by decide +kernel
theorem dL_law_492 : decode cL_law 492 = .ok (.isub, 1) := by decide +kernel
theorem dL_law_493 : decode cL_law 493 = .ok (.invokevirtual 121, 3) := by decide +kernel
theorem dL_law_496 : decode cL_law 496 = .ok (.invokevirtual 109, 3) := by decide +kernel
theorem dL_law_499 : decode cL_law 499 = .ok (.if_icmp .gt 24, 3) := by decide +kernel
theorem dL_law_502 : decode cL_law 502 = .ok (.aload_n 1, 1) := by decide +kernel
theorem dL_law_503 : decode cL_law 503 = .ok (.iload 13, 2) := by decide +kernel
theorem dL_law_505 : decode cL_law 505 = .ok (.invokevirtual 112, 3) := by decide +kernel
theorem dL_law_508 : decode cL_law 508 = .ok (.aload_n 1, 1) := by decide +kernel
theorem dL_law_509 : decode cL_law 509 = .ok (.aload_n 1, 1) := by decide +kernel
theorem dL_law_510 : decode cL_law 510 = .ok (.iload 12, 2) := by decide +kernel
theorem dL_law_512 : decode cL_law 512 = .ok (.iconst 1, 1) := by decide +kernel
theorem dL_law_513 : decode cL_law 513 = .ok (.isub, 1) := by decide +kernel
theorem dL_law_514 : decode cL_law 514 = .ok (.invokevirtual 121, 3) := by decide +kernel
theorem dL_law_517 : decode cL_law 517 = .ok (.invokevirtual 112, 3) := by decide +kernel
theorem dL_law_520 : decode cL_law 520 = .ok (.if_icmp .le 5, 3) := by decide +kernel
theorem dL_law_523 : decode cL_law 523 = .ok (.iconst 0, 1) := by decide +kernel
theorem dL_law_524 : decode cL_law 524 = .ok (.ireturn, 1) := by decide +kernel
theorem dL_law_525 : decode cL_law 525 = .ok (.iinc 12 1, 3) := by decide +kernel
theorem dL_law_528 : decode cL_law 528 = .ok (.goto (-78), 3) := by decide +kernel
theorem dL_law_531 : decode cL_law 531 = .ok (.iload 7, 2) := by decide +kernel
theorem dL_law_533 : decode cL_law 533 = .ok (.iload 6, 2) := by decide +kernel
theorem dL_law_535 : decode cL_law 535 = .ok (.if_icmp .ne 83, 3) := by decide +kernel
theorem dL_law_538 : decode cL_law 538 = .ok (.iload 9, 2) := by decide +kernel
theorem dL_law_540 : decode cL_law 540 = .ok (.bipush 40, 2) := by decide +kernel
theorem dL_law_542 : decode cL_law 542 = .ok (.if_icmp .gt 76, 3) := by decide +kernel
theorem dL_law_545 : decode cL_law 545 = .ok (.aload_n 1, 1) := by decide +kernel
theorem dL_law_546 : decode cL_law 546 = .ok (.invokevirtual 124, 3) := by decide +kernel
theorem dL_law_549 : decode cL_law 549 = .ok (.iload 6, 2) := by decide +kernel
theorem dL_law_551 : decode cL_law 551 = .ok (.ifCond .ne 7, 3) := by decide +kernel
theorem dL_law_554 : decode cL_law 554 = .ok (.dconst 0, 1) := by decide +kernel
theorem dL_law_555 : decode cL_law 555 = .ok (.goto 10, 3) := by decide +kernel
theorem dL_law_558 : decode cL_law 558 = .ok (.iload 8, 2) := by decide +kernel
theorem dL_law_560 : decode cL_law 560 = .ok (.i2d, 1) := by decide +kernel
theorem dL_law_561 : decode cL_law 561 = .ok (.iload 6, 2) := by decide +kernel
theorem dL_law_563 : decode cL_law 563 = .ok (.i2d, 1) := by decide +kernel
theorem dL_law_564 : decode cL_law 564 = .ok (.ddiv, 1) := by decide +kernel
theorem dL_law_565 : decode cL_law 565 = .ok (.dcmp .l, 1) := by decide +kernel
theorem dL_law_566 : decode cL_law 566 = .ok (.ifCond .ne 52, 3) := by decide +kernel
theorem dL_law_569 : decode cL_law 569 = .ok (.aload_n 1, 1) := by decide +kernel
theorem dL_law_570 : decode cL_law 570 = .ok (.invokevirtual 118, 3) := by decide +kernel
theorem dL_law_573 : decode cL_law 573 = .ok (.aload_n 1, 1) := by decide +kernel
theorem dL_law_574 : decode cL_law 574 = .ok (.invokevirtual 128, 3) := by decide +kernel
theorem dL_law_577 : decode cL_law 577 = .ok (.bipush 8, 2) := by decide +kernel
theorem dL_law_579 : decode cL_law 579 = .ok (.aload_n 1, 1) := by decide +kernel
theorem dL_law_580 : decode cL_law 580 = .ok (.invokevirtual 128, 3) := by decide +kernel
theorem dL_law_583 : decode cL_law 583 = .ok (.isub, 1) := by decide +kernel
theorem dL_law_584 : decode cL_law 584 = .ok (.invokestatic 131, 3) := by decide +kernel
theorem dL_law_587 : decode cL_law 587 = .ok (.if_icmp .ne 31, 3) := by decide +kernel
theorem dL_law_590 : decode cL_law 590 = .ok (.aload_n 1, 1) := by decide +kernel
theorem dL_law_591 : decode cL_law 591 = .ok (.invokevirtual 118, 3) := by decide +kernel
theorem dL_law_594 : decode cL_law 594 = .ok (.iconst 4, 1) := by decide +kernel
theorem dL_law_595 : decode cL_law 595 = .ok (.if_icmp .ne 7, 3) := by decide +kernel
theorem dL_law_598 : decode cL_law 598 = .ok (.iconst 1, 1) := by decide +kernel
theorem dL_law_599 : decode cL_law 599 = .ok (.goto 4, 3) := by decide +kernel
theorem dL_law_602 : decode cL_law 602 = .ok (.iconst 0, 1) := by decide +kernel
theorem dL_law_603 : decode cL_law 603 = .ok (.aload_n 1, 1) := by decide +kernel
theorem dL_law_604 : decode cL_law 604 = .ok (.invokevirtual 134, 3) := by decide +kernel
theorem dL_law_607 : decode cL_law 607 = .ok (.ifCond .ne 7, 3) := by decide +kernel
theorem dL_law_610 : decode cL_law 610 = .ok (.iconst 1, 1) := by decide +kernel
theorem dL_law_611 : decode cL_law 611 = .ok (.goto 4, 3) := by decide +kernel
theorem dL_law_614 : decode cL_law 614 = .ok (.iconst 0, 1) := by decide +kernel
theorem dL_law_615 : decode cL_law 615 = .ok (.if_icmp .eq 5, 3) := by decide +kernel
theorem dL_law_618 : decode cL_law 618 = .ok (.iconst 0, 1) := by decide +kernel
theorem dL_law_619 : decode cL_law 619 = .ok (.ireturn, 1) := by decide +kernel
theorem dL_law_620 : decode cL_law 620 = .ok (.aload_n 1, 1) := by decide +kernel
theorem dL_law_621 : decode cL_law 621 = .ok (.invokevirtual 137, 3) := by decide +kernel
theorem dL_law_624 : decode cL_law 624 = .ok (.newarray .boolean, 2) := by decide +kernel
theorem dL_law_626 : decode cL_law 626 = .ok (.astore 12, 2) := by decide +kernel
theorem dL_law_628 : decode cL_law 628 = .ok (.iconst 0, 1) := by decide +kernel
theorem dL_law_629 : decode cL_law 629 = .ok (.istore 13, 2) := by decide +kernel
theorem dL_law_631 : decode cL_law 631 = .ok (.iload 13, 2) := by decide +kernel
theorem dL_law_633 : decode cL_law 633 = .ok (.aload 12, 2) := by decide +kernel
theorem dL_law_635 : decode cL_law 635 = .ok (.arraylength, 1) := by decide +kernel
theorem dL_law_636 : decode cL_law 636 = .ok (.if_icmp .ge 73, 3) := by decide +kernel
theorem dL_law_639 : decode cL_law 639 = .ok (.aload 12, 2) := by decide +kernel
theorem dL_law_641 : decode cL_law 641 = .ok (.iload 13, 2) := by decide +kernel
theorem dL_law_643 : decode cL_law 643 = .ok (.aload_n 1, 1) := by decide +kernel
theorem dL_law_644 : decode cL_law 644 = .ok (.iload 13, 2) := by decide +kernel
theorem dL_law_646 : decode cL_law 646 = .ok (.invokevirtual 139, 3) := by decide +kernel
theorem dL_law_649 : decode cL_law 649 = .ok (.bastore, 1) := by decide +kernel
theorem dL_law_650 : decode cL_law 650 = .ok (.aload 12, 2) := by decide +kernel
theorem dL_law_652 : decode cL_law 652 = .ok (.iload 13, 2) := by decide +kernel
theorem dL_law_654 : decode cL_law 654 = .ok (.baload, 1) := by decide +kernel
theorem dL_law_655 : decode cL_law 655 = .ok (.ifCond .eq 25, 3) := by decide +kernel
theorem dL_law_658 : decode cL_law 658 = .ok (.aload_n 1, 1) := by decide +kernel
theorem dL_law_659 : decode cL_law 659 = .ok (.iload 13, 2) := by decide +kernel
theorem dL_law_661 : decode cL_law 661 = .ok (.invokevirtual 142, 3) := by decide +kernel
theorem dL_law_664 : decode cL_law 664 = .ok (.ifCond .ne 37, 3) := by decide +kernel
theorem dL_law_667 : decode cL_law 667 = .ok (.aload_n 1, 1) := by decide +kernel
theorem dL_law_668 : decode cL_law 668 = .ok (.iload 13, 2) := by decide +kernel
theorem dL_law_670 : decode cL_law 670 = .ok (.invokevirtual 145, 3) := by decide +kernel
theorem dL_law_673 : decode cL_law 673 = .ok (.aload_n 1, 1) := by decide +kernel
theorem dL_law_674 : decode cL_law 674 = .ok (.invokevirtual 148, 3) := by decide +kernel
theorem dL_law_677 : decode cL_law 677 = .ok (.if_icmp .lt 24, 3) := by decide +kernel
theorem dL_law_680 : decode cL_law 680 = .ok (.aload 12, 2) := by decide +kernel
theorem dL_law_682 : decode cL_law 682 = .ok (.iload 13, 2) := by decide +kernel
theorem dL_law_684 : decode cL_law 684 = .ok (.baload, 1) := by decide +kernel
theorem dL_law_685 : decode cL_law 685 = .ok (.ifCond .ne 18, 3) := by decide +kernel
theorem dL_law_688 : decode cL_law 688 = .ok (.aload_n 1, 1) := by decide +kernel
theorem dL_law_689 : decode cL_law 689 = .ok (.iload 13, 2) := by decide +kernel
theorem dL_law_691 : decode cL_law 691 = .ok (.invokevirtual 145, 3) := by decide +kernel
theorem dL_law_694 : decode cL_law 694 = .ok (.aload_n 1, 1) := by decide +kernel
theorem dL_law_695 : decode cL_law 695 = .ok (.invokevirtual 148, 3) := by decide +kernel
theorem dL_law_698 : decode cL_law 698 = .ok (.if_icmp .lt 5, 3) := by decide +kernel
theorem dL_law_701 : decode cL_law 701 = .ok (.iconst 0, 1) := by decide +kernel
theorem dL_law_702 : decode cL_law 702 = .ok (.ireturn, 1) := by decide +kernel
theorem dL_law_703 : decode cL_law 703 = .ok (.iinc 13 1, 3) := by decide +kernel
theorem dL_law_706 : decode cL_law 706 = .ok (.goto (-75), 3) := by decide +kernel
theorem dL_law_709 : decode cL_law 709 = .ok (.aload_n 1, 1) := by decide +kernel
theorem dL_law_710 : decode cL_law 710 = .ok (.invokevirtual 148, 3) := by decide +kernel
theorem dL_law_713 : decode cL_law 713 = .ok (.istore 13, 2) := by decide +kernel
theorem dL_law_715 : decode cL_law 715 = .ok (.aload_n 1, 1) := by decide +kernel
theorem dL_law_716 : decode cL_law 716 = .ok (.invokevirtual 118, 3) := by decide +kernel
theorem dL_law_719 : decode cL_law 719 = .ok (.istore 14, 2) := by decide +kernel
theorem dL_law_721 : decode cL_law 721 = .ok (.aload_n 1, 1) := by decide +kernel
theorem dL_law_722 : decode cL_law 722 = .ok (.invokevirtual 150, 3) := by decide +kernel
theorem dL_law_725 : decode cL_law 725 = .ok (.istore 15, 2) := by decide +kernel
theorem dL_law_727 : decode cL_law 727 = .ok (.iconst 0, 1) := by decide +kernel
theorem dL_law_728 : decode cL_law 728 = .ok (.istore 16, 2) := by decide +kernel
theorem dL_law_730 : decode cL_law 730 = .ok (.aload_n 1, 1) := by decide +kernel
theorem dL_law_731 : decode cL_law 731 = .ok (.iconst 1, 1) := by decide +kernel
theorem dL_law_732 : decode cL_law 732 = .ok (.invokevirtual 65, 3) := by decide +kernel
theorem dL_law_735 : decode cL_law 735 = .ok (.istore 17, 2) := by decide +kernel
theorem dL_law_737 : decode cL_law 737 = .ok (.aload_n 2, 1) := by decide +kernel
theorem dL_law_738 : decode cL_law 738 = .ok (.invokevirtual 152, 3) := by decide +kernel
theorem dL_law_741 : decode cL_law 741 = .ok (.pop, 1) := by decide +kernel
theorem dL_law_742 : decode cL_law 742 = .ok (.iconst 0, 1) := by decide +kernel
theorem dL_law_743 : decode cL_law 743 = .ok (.istore 18, 2) := by decide +kernel
theorem dL_law_745 : decode cL_law 745 = .ok (.iload 18, 2) := by decide +kernel
theorem dL_law_747 : decode cL_law 747 = .ok (.aload 12, 2) := by decide +kernel
theorem dL_law_749 : decode cL_law 749 = .ok (.arraylength, 1) := by decide +kernel
theorem dL_law_750 : decode cL_law 750 = .ok (.if_icmp .ge 132, 3) := by decide +kernel
theorem dL_law_753 : decode cL_law 753 = .ok (.aload 12, 2) := by decide +kernel
theorem dL_law_755 : decode cL_law 755 = .ok (.iload 18, 2) := by decide +kernel
theorem dL_law_757 : decode cL_law 757 = .ok (.baload, 1) := by decide +kernel
theorem dL_law_758 : decode cL_law 758 = .ok (.ifCond .eq 35, 3) := by decide +kernel
theorem dL_law_761 : decode cL_law 761 = .ok (.aload_n 1, 1) := by decide +kernel
theorem dL_law_762 : decode cL_law 762 = .ok (.iload 18, 2) := by decide +kernel
theorem dL_law_764 : decode cL_law 764 = .ok (.invokevirtual 139, 3) := by decide +kernel
theorem dL_law_767 : decode cL_law 767 = .ok (.ifCond .ne 26, 3) := by decide +kernel
theorem dL_law_770 : decode cL_law 770 = .ok (.aload_n 1, 1) := by decide +kernel
theorem dL_law_771 : decode cL_law 771 = .ok (.iload 18, 2) := by decide +kernel
theorem dL_law_773 : decode cL_law 773 = .ok (.invokevirtual 142, 3) := by decide +kernel
theorem dL_law_776 : decode cL_law 776 = .ok (.ifCond .eq 17, 3) := by decide +kernel
theorem dL_law_779 : decode cL_law 779 = .ok (.iload 16, 2) := by decide +kernel
theorem dL_law_781 : decode cL_law 781 = .ok (.aload_n 2, 1) := by decide +kernel
theorem dL_law_782 : decode cL_law 782 = .ok (.getfield 56, 3) := by decide +kernel
theorem dL_law_785 : decode cL_law 785 = .ok (.iload 18, 2) := by decide +kernel
theorem dL_law_787 : decode cL_law 787 = .ok (.aaload, 1) := by decide +kernel
theorem dL_law_788 : decode cL_law 788 = .ok (.iconst 2, 1) := by decide +kernel
theorem dL_law_789 : decode cL_law 789 = .ok (.iaload, 1) := by decide +kernel
theorem dL_law_790 : decode cL_law 790 = .ok (.iadd, 1) := by decide +kernel
theorem dL_law_791 : decode cL_law 791 = .ok (.istore 16, 2) := by decide +kernel
theorem dL_law_793 : decode cL_law 793 = .ok (.aload_n 1, 1) := by decide +kernel
theorem dL_law_794 : decode cL_law 794 = .ok (.iload 18, 2) := by decide +kernel
theorem dL_law_796 : decode cL_law 796 = .ok (.invokevirtual 139, 3) := by decide +kernel
theorem dL_law_799 : decode cL_law 799 = .ok (.aload 12, 2) := by decide +kernel
theorem dL_law_801 : decode cL_law 801 = .ok (.iload 18, 2) := by decide +kernel
theorem dL_law_803 : decode cL_law 803 = .ok (.baload, 1) := by decide +kernel
theorem dL_law_804 : decode cL_law 804 = .ok (.ifCond .eq 18, 3) := by decide +kernel
theorem dL_law_807 : decode cL_law 807 = .ok (.aload_n 1, 1) := by decide +kernel
theorem dL_law_808 : decode cL_law 808 = .ok (.iload 18, 2) := by decide +kernel
theorem dL_law_810 : decode cL_law 810 = .ok (.invokevirtual 145, 3) := by decide +kernel
theorem dL_law_813 : decode cL_law 813 = .ok (.iload 13, 2) := by decide +kernel
theorem dL_law_815 : decode cL_law 815 = .ok (.if_icmp .le 7, 3) := by decide +kernel
theorem dL_law_818 : decode cL_law 818 = .ok (.iconst 1, 1) := by decide +kernel
theorem dL_law_819 : decode cL_law 819 = .ok (.goto 4, 3) := by decide +kernel
theorem dL_law_822 : decode cL_law 822 = .ok (.iconst 0, 1) := by decide +kernel
theorem dL_law_823 : decode cL_law 823 = .ok (.if_icmp .ne 51, 3) := by decide +kernel
theorem dL_law_826 : decode cL_law 826 = .ok (.aload 12, 2) := by decide +kernel
theorem dL_law_828 : decode cL_law 828 = .ok (.iload 18, 2) := by decide +kernel
theorem dL_law_830 : decode cL_law 830 = .ok (.baload, 1) := by decide +kernel
theorem dL_law_831 : decode cL_law 831 = .ok (.ifCond .eq 45, 3) := by decide +kernel
theorem dL_law_834 : decode cL_law 834 = .ok (.aload_n 1, 1) := by decide +kernel
theorem dL_law_835 : decode cL_law 835 = .ok (.iload 18, 2) := by decide +kernel
theorem dL_law_837 : decode cL_law 837 = .ok (.invokevirtual 139, 3) := by decide +kernel
theorem dL_law_840 : decode cL_law 840 = .ok (.ifCond .ne 36, 3) := by decide +kernel
theorem dL_law_843 : decode cL_law 843 = .ok (.aload_n 1, 1) := by decide +kernel
theorem dL_law_844 : decode cL_law 844 = .ok (.iload 18, 2) := by decide +kernel
theorem dL_law_846 : decode cL_law 846 = .ok (.invokevirtual 142, 3) := by decide +kernel
theorem dL_law_849 : decode cL_law 849 = .ok (.aload 11, 2) := by decide +kernel
theorem dL_law_851 : decode cL_law 851 = .ok (.aload_n 2, 1) := by decide +kernel
theorem dL_law_852 : decode cL_law 852 = .ok (.getfield 56, 3) := by decide +kernel
theorem dL_law_855 : decode cL_law 855 = .ok (.iload 18, 2) := by decide +kernel
theorem dL_law_857 : decode cL_law 857 = .ok (.aaload, 1) := by decide +kernel
theorem dL_law_858 : decode cL_law 858 = .ok (.iconst 0, 1) := by decide +kernel
theorem dL_law_859 : decode cL_law 859 = .ok (.iaload, 1) := by decide +kernel
theorem dL_law_860 : decode cL_law 860 = .ok (.aaload, 1) := by decide +kernel
theorem dL_law_861 : decode cL_law 861 = .ok (.iconst 0, 1) := by decide +kernel
theorem dL_law_862 : decode cL_law 862 = .ok (.iaload, 1) := by decide +kernel
theorem dL_law_863 : decode cL_law 863 = .ok (.ifCond .ne 7, 3) := by decide +kernel
theorem dL_law_866 : decode cL_law 866 = .ok (.iconst 1, 1) := by decide +kernel
theorem dL_law_867 : decode cL_law 867 = .ok (.goto 4, 3) := by decide +kernel
theorem dL_law_870 : decode cL_law 870 = .ok (.iconst 0, 1) := by decide +kernel
theorem dL_law_871 : decode cL_law 871 = .ok (.if_icmp .eq 5, 3) := by decide +kernel
theorem dL_law_874 : decode cL_law 874 = .ok (.iconst 0, 1) := by decide +kernel
theorem dL_law_875 : decode cL_law 875 = .ok (.ireturn, 1) := by decide +kernel
theorem dL_law_876 : decode cL_law 876 = .ok (.iinc 18 1, 3) := by decide +kernel
theorem dL_law_879 : decode cL_law 879 = .ok (.goto (-134), 3) := by decide +kernel
theorem dL_law_882 : decode cL_law 882 = .ok (.iload 17, 2) := by decide +kernel
theorem dL_law_884 : decode cL_law 884 = .ok (.iload 10, 2) := by decide +kernel
theorem dL_law_886 : decode cL_law 886 = .ok (.iload 16, 2) := by decide +kernel
theorem dL_law_888 : decode cL_law 888 = .ok (.isub, 1) := by decide +kernel
theorem dL_law_889 : decode cL_law 889 = .ok (.if_icmp .ne 26, 3) := by decide +kernel
theorem dL_law_892 : decode cL_law 892 = .ok (.aload_n 1, 1) := by decide +kernel
theorem dL_law_893 : decode cL_law 893 = .ok (.invokevirtual 150, 3) := by decide +kernel
theorem dL_law_896 : decode cL_law 896 = .ok (.iload 15, 2) := by decide +kernel
theorem dL_law_898 : decode cL_law 898 = .ok (.iload 17, 2) := by decide +kernel
theorem dL_law_900 : decode cL_law 900 = .ok (.iadd, 1) := by decide +kernel
theorem dL_law_901 : decode cL_law 901 = .ok (.if_icmp .ne 14, 3) := by decide +kernel
theorem dL_law_904 : decode cL_law 904 = .ok (.aload_n 1, 1) := by decide +kernel
theorem dL_law_905 : decode cL_law 905 = .ok (.invokevirtual 148, 3) := by decide +kernel
theorem dL_law_908 : decode cL_law 908 = .ok (.iload 13, 2) := by decide +kernel
theorem dL_law_910 : decode cL_law 910 = .ok (.iconst 1, 1) := by decide +kernel
theorem dL_law_911 : decode cL_law 911 = .ok (.iadd, 1) := by decide +kernel
theorem dL_law_912 : decode cL_law 912 = .ok (.if_icmp .eq 5, 3) := by decide +kernel
theorem dL_law_915 : decode cL_law 915 = .ok (.iconst 0, 1) := by decide +kernel
theorem dL_law_916 : decode cL_law 916 = .ok (.ireturn, 1) := by decide +kernel
theorem dL_law_917 : decode cL_law 917 = .ok (.iconst 0, 1) := by decide +kernel
theorem dL_law_918 : decode cL_law 918 = .ok (.istore 18, 2) := by decide +kernel
theorem dL_law_920 : decode cL_law 920 = .ok (.iload 18, 2) := by decide +kernel
theorem dL_law_922 : decode cL_law 922 = .ok (.iload 5, 2) := by decide +kernel
theorem dL_law_924 : decode cL_law 924 = .ok (.if_icmp .ge 264, 3) := by decide +kernel
theorem dL_law_927 : decode cL_law 927 = .ok (.aload_n 1, 1) := by decide +kernel
theorem dL_law_928 : decode cL_law 928 = .ok (.iload 18, 2) := by decide +kernel
theorem dL_law_930 : decode cL_law 930 = .ok (.invokevirtual 93, 3) := by decide +kernel
theorem dL_law_933 : decode cL_law 933 = .ok (.istore 19, 2) := by decide +kernel
theorem dL_law_935 : decode cL_law 935 = .ok (.aload_n 1, 1) := by decide +kernel
theorem dL_law_936 : decode cL_law 936 = .ok (.iload 18, 2) := by decide +kernel
theorem dL_law_938 : decode cL_law 938 = .ok (.invokevirtual 96, 3) := by decide +kernel
theorem dL_law_941 : decode cL_law 941 = .ok (.istore 20, 2) := by decide +kernel
theorem dL_law_943 : decode cL_law 943 = .ok (.aload 11, 2) := by decide +kernel
theorem dL_law_945 : decode cL_law 945 = .ok (.iload 18, 2) := by decide +kernel
theorem dL_law_947 : decode cL_law 947 = .ok (.aaload, 1) := by decide +kernel
theorem dL_law_948 : decode cL_law 948 = .ok (.iconst 0, 1) := by decide +kernel
theorem dL_law_949 : decode cL_law 949 = .ok (.iaload, 1) := by decide +kernel
theorem dL_law_950 : decode cL_law 950 = .ok (.ifCond .le 7, 3) := by decide +kernel
theorem dL_law_953 : decode cL_law 953 = .ok (.iconst 1, 1) := by decide +kernel
theorem dL_law_954 : decode cL_law 954 = .ok (.goto 4, 3) := by decide +kernel
theorem dL_law_957 : decode cL_law 957 = .ok (.iconst 0, 1) := by decide +kernel
theorem dL_law_958 : decode cL_law 958 = .ok (.istore 21, 2) := by decide +kernel
theorem dL_law_960 : decode cL_law 960 = .ok (.iload 20, 2) := by decide +kernel
theorem dL_law_962 : decode cL_law 962 = .ok (.iload 21, 2) := by decide +kernel
theorem dL_law_964 : decode cL_law 964 = .ok (.ifCond .eq 28, 3) := by decide +kernel
theorem dL_law_967 : decode cL_law 967 = .ok (.iload 13, 2) := by decide +kernel
theorem dL_law_969 : decode cL_law 969 = .ok (.iconst 3, 1) := by decide +kernel
theorem dL_law_970 : decode cL_law 970 = .ok (.irem, 1) := by decide +kernel
theorem dL_law_971 : decode cL_law 971 = .ok (.iconst 2, 1) := by decide +kernel
theorem dL_law_972 : decode cL_law 972 = .ok (.if_icmp .ne 20, 3) := by decide +kernel
theorem dL_law_975 : decode cL_law 975 = .ok (.bipush 12, 2) := by decide +kernel
theorem dL_law_977 : decode cL_law 977 = .ok (.aload 11, 2) := by decide +kernel
theorem dL_law_979 : decode cL_law 979 = .ok (.iload 18, 2) := by decide +kernel
theorem dL_law_981 : decode cL_law 981 = .ok (.aaload, 1) := by decide +kernel
theorem dL_law_982 : decode cL_law 982 = .ok (.iconst 1, 1) := by decide +kernel
theorem dL_law_983 : decode cL_law 983 = .ok (.iaload, 1) := by decide +kernel
theorem dL_law_984 : decode cL_law 984 = .ok (.iconst 1, 1) := by decide +kernel
theorem dL_law_985 : decode cL_law 985 = .ok (.iadd, 1) := by decide +kernel
theorem dL_law_986 : decode cL_law 986 = .ok (.invokestatic 131, 3) := by decide +kernel
theorem dL_law_989 : decode cL_law 989 = .ok (.goto 10, 3) := by decide +kernel
theorem dL_law_992 : decode cL_law 992 = .ok (.aload 11, 2) := by decide +kernel
theorem dL_law_994 : decode cL_law 994 = .ok (.iload 18, 2) := by decide +kernel
theorem dL_law_996 : decode cL_law 996 = .ok (.aaload, 1) := by decide +kernel
theorem dL_law_997 : decode cL_law 997 = .ok (.iconst 1, 1) := by decide +kernel
theorem dL_law_998 : decode cL_law 998 = .ok (.iaload, 1) := by decide +kernel
theorem dL_law_999 : decode cL_law 999 = .ok (.if_icmp .ne 33, 3) := by decide +kernel
theorem dL_law_1002 : decode cL_law 1002 = .ok (.iload 19, 2) := by decide +kernel
theorem dL_law_1004 : decode cL_law 1004 = .ok (.aload 11, 2) := by decide +kernel
theorem dL_law_1006 : decode cL_law 1006 = .ok (.iload 18, 2) := by decide +kernel
theorem dL_law_1008 : decode cL_law 1008 = .ok (.aaload, 1) := by decide +kernel
theorem dL_law_1009 : decode cL_law 1009 = .ok (.iconst 0, 1) := by decide +kernel
theorem dL_law_1010 : decode cL_law 1010 = .ok (.iaload, 1) := by decide +kernel
theorem dL_law_1011 : decode cL_law 1011 = .ok (.iload 21, 2) := by decide +kernel
theorem dL_law_1013 : decode cL_law 1013 = .ok (.ifCond .eq 14, 3) := by decide +kernel
theorem dL_law_1016 : decode cL_law 1016 = .ok (.iload 20, 2) := by decide +kernel
theorem dL_law_1018 : decode cL_law 1018 = .ok (.bipush 9, 2) := by decide +kernel
theorem dL_law_1020 : decode cL_law 1020 = .ok (.if_icmp .le 7, 3) := by decide +kernel
theorem dL_law_1023 : decode cL_law 1023 = .ok (.iconst 1, 1) := by decide +kernel
theorem dL_law_1024 : decode cL_law 1024 = .ok (.goto 4, 3) := by decide +kernel
theorem dL_law_1027 : decode cL_law 1027 = .ok (.iconst 0, 1) := by decide +kernel
theorem dL_law_1028 : decode cL_law 1028 = .ok (.isub, 1) := by decide +kernel
theorem dL_law_1029 : decode cL_law 1029 = .ok (.if_icmp .eq 5, 3) := by decide +kernel
theorem dL_law_1032 : decode cL_law 1032 = .ok (.iconst 0, 1) := by decide +kernel
theorem dL_law_1033 : decode cL_law 1033 = .ok (.ireturn, 1) := by decide +kernel
theorem dL_law_1034 : decode cL_law 1034 = .ok (.aload_n 1, 1) := by decide +kernel
theorem dL_law_1035 : decode cL_law 1035 = .ok (.iload 18, 2) := by decide +kernel
theorem dL_law_1037 : decode cL_law 1037 = .ok (.invokevirtual 99, 3) := by decide +kernel
theorem dL_law_1040 : decode cL_law 1040 = .ok (.aload 11, 2) := by decide +kernel
theorem dL_law_1042 : decode cL_law 1042 = .ok (.iload 18, 2) := by decide +kernel
theorem dL_law_1044 : decode cL_law 1044 = .ok (.aaload, 1) := by decide +kernel
theorem dL_law_1045 : decode cL_law 1045 = .ok (.iconst 2, 1) := by decide +kernel
theorem dL_law_1046 : decode cL_law 1046 = .ok (.iaload, 1) := by decide +kernel
theorem dL_law_1047 : decode cL_law 1047 = .ok (.isub, 1) := by decide +kernel
theorem dL_law_1048 : decode cL_law 1048 = .ok (.istore 22, 2) := by decide +kernel
theorem dL_law_1050 : decode cL_law 1050 = .ok (.iload 22, 2) := by decide +kernel
theorem dL_law_1052 : decode cL_law 1052 = .ok (.ifCond .le 34, 3) := by decide +kernel
theorem dL_law_1055 : decode cL_law 1055 = .ok (.iload 22, 2) := by decide +kernel
theorem dL_law_1057 : decode cL_law 1057 = .ok (.iconst 1, 1) := by decide +kernel
theorem dL_law_1058 : decode cL_law 1058 = .ok (.if_icmp .gt 54, 3) := by decide +kernel
theorem dL_law_1061 : decode cL_law 1061 = .ok (.iload 14, 2) := by decide +kernel
theorem dL_law_1063 : decode cL_law 1063 = .ok (.iconst 4, 1) := by decide +kernel
theorem dL_law_1064 : decode cL_law 1064 = .ok (.if_icmp .ne 48, 3) := by decide +kernel
theorem dL_law_1067 : decode cL_law 1067 = .ok (.iload 19, 2) := by decide +kernel
theorem dL_law_1069 : decode cL_law 1069 = .ok (.ifCond .eq 43, 3) := by decide +kernel
theorem dL_law_1072 : decode cL_law 1072 = .ok (.iload 20, 2) := by decide +kernel
theorem dL_law_1074 : decode cL_law 1074 = .ok (.bipush 7, 2) := by decide +kernel
theorem dL_law_1076 : decode cL_law 1076 = .ok (.if_icmp .lt 36, 3) := by decide +kernel
theorem dL_law_1079 : decode cL_law 1079 = .ok (.iload 20, 2) := by decide +kernel
theorem dL_law_1081 : decode cL_law 1081 = .ok (.bipush 9, 2) := by decide +kernel
theorem dL_law_1083 : decode cL_law 1083 = .ok (.if_icmp .gt 29, 3) := by decide +kernel
theorem dL_law_1086 : decode cL_law 1086 = .ok (.iload 22, 2) := by decide +kernel
theorem dL_law_1088 : decode cL_law 1088 = .ok (.ifCond .ge 26, 3) := by decide +kernel
theorem dL_law_1091 : decode cL_law 1091 = .ok (.iload 22, 2) := by decide +kernel
theorem dL_law_1093 : decode cL_law 1093 = .ok (.iconst (-1), 1) := by decide +kernel
theorem dL_law_1094 : decode cL_law 1094 = .ok (.if_icmp .lt 18, 3) := by decide +kernel
theorem dL_law_1097 : decode cL_law 1097 = .ok (.iload 14, 2) := by decide +kernel
theorem dL_law_1099 : decode cL_law 1099 = .ok (.ifCond .ne 13, 3) := by decide +kernel
theorem dL_law_1102 : decode cL_law 1102 = .ok (.iload 19, 2) := by decide +kernel
theorem dL_law_1104 : decode cL_law 1104 = .ok (.ifCond .le 10, 3) := by decide +kernel
theorem dL_law_1107 : decode cL_law 1107 = .ok (.iload 20, 2) := by decide +kernel
theorem dL_law_1109 : decode cL_law 1109 = .ok (.ifCond .le 5, 3) := by decide +kernel
theorem dL_law_1112 : decode cL_law 1112 = .ok (.iconst 0, 1) := by decide +kernel
theorem dL_law_1113 : decode cL_law 1113 = .ok (.ireturn, 1) := by decide +kernel
theorem dL_law_1114 : decode cL_law 1114 = .ok (.iload 22, 2) := by decide +kernel
theorem dL_law_1116 : decode cL_law 1116 = .ok (.ifCond .ne 66, 3) := by decide +kernel
theorem dL_law_1119 : decode cL_law 1119 = .ok (.iload 14, 2) := by decide +kernel
theorem dL_law_1121 : decode cL_law 1121 = .ok (.iconst 4, 1) := by decide +kernel
theorem dL_law_1122 : decode cL_law 1122 = .ok (.if_icmp .ne 33, 3) := by decide +kernel
theorem dL_law_1125 : decode cL_law 1125 = .ok (.iload 19, 2) := by decide +kernel
theorem dL_law_1127 : decode cL_law 1127 = .ok (.ifCond .le 28, 3) := by decide +kernel
theorem dL_law_1130 : decode cL_law 1130 = .ok (.iload 20, 2) := by decide +kernel
theorem dL_law_1132 : decode cL_law 1132 = .ok (.bipush 6, 2) := by decide +kernel
theorem dL_law_1134 : decode cL_law 1134 = .ok (.if_icmp .le 21, 3) := by decide +kernel
theorem dL_law_1137 : decode cL_law 1137 = .ok (.iload 20, 2) := by decide +kernel
theorem dL_law_1139 : decode cL_law 1139 = .ok (.bipush 10, 2) := by decide +kernel
theorem dL_law_1141 : decode cL_law 1141 = .ok (.if_icmp .ge 14, 3) := by decide +kernel
theorem dL_law_1144 : decode cL_law 1144 = .ok (.aload 11, 2) := by decide +kernel
theorem dL_law_1146 : decode cL_law 1146 = .ok (.iload 18, 2) := by decide +kernel
theorem dL_law_1148 : decode cL_law 1148 = .ok (.aaload, 1) := by decide +kernel
theorem dL_law_1149 : decode cL_law 1149 = .ok (.iconst 2, 1) := by decide +kernel
theorem dL_law_1150 : decode cL_law 1150 = .ok (.iaload, 1) := by decide +kernel
theorem dL_law_1151 : decode cL_law 1151 = .ok (.iconst 5, 1) := by decide +kernel
theorem dL_law_1152 : decode cL_law 1152 = .ok (.if_icmp .lt 28, 3) := by decide +kernel
theorem dL_law_1155 : decode cL_law 1155 = .ok (.iload 14, 2) := by decide +kernel
theorem dL_law_1157 : decode cL_law 1157 = .ok (.ifCond .ne 25, 3) := by decide +kernel
theorem dL_law_1160 : decode cL_law 1160 = .ok (.aload 11, 2) := by decide +kernel
theorem dL_law_1162 : decode cL_law 1162 = .ok (.iload 18, 2) := by decide +kernel
theorem dL_law_1164 : decode cL_law 1164 = .ok (.aaload, 1) := by decide +kernel
theorem dL_law_1165 : decode cL_law 1165 = .ok (.iconst 2, 1) := by decide +kernel
theorem dL_law_1166 : decode cL_law 1166 = .ok (.iaload, 1) := by decide +kernel
theorem dL_law_1167 : decode cL_law 1167 = .ok (.ifCond .le 15, 3) := by decide +kernel
theorem dL_law_1170 : decode cL_law 1170 = .ok (.iload 20, 2) := by decide +kernel
theorem dL_law_1172 : decode cL_law 1172 = .ok (.ifCond .eq 8, 3) := by decide +kernel
theorem dL_law_1175 : decode cL_law 1175 = .ok (.iload 19, 2) := by decide +kernel
theorem dL_law_1177 : decode cL_law 1177 = .ok (.ifCond .ne 5, 3) := by decide +kernel
theorem dL_law_1180 : decode cL_law 1180 = .ok (.iconst 0, 1) := by decide +kernel
theorem dL_law_1181 : decode cL_law 1181 = .ok (.ireturn, 1) := by decide +kernel
theorem dL_law_1182 : decode cL_law 1182 = .ok (.iinc 18 1, 3) := by decide +kernel
theorem dL_law_1185 : decode cL_law 1185 = .ok (.goto (-265), 3) := by decide +kernel
theorem dL_law_1188 : decode cL_law 1188 = .ok (.iinc 3 1, 3) := by decide +kernel
theorem dL_law_1191 : decode cL_law 1191 = .ok (.goto (-1169), 3) := by decide +kernel
theorem dL_law_1194 : decode cL_law 1194 = .ok (.aload_n 2, 1) := by decide +kernel
theorem dL_law_1195 : decode cL_law 1195 = .ok (.aload_n 1, 1) := by decide +kernel
theorem dL_law_1196 : decode cL_law 1196 = .ok (.invokevirtual 154, 3) := by decide +kernel
theorem dL_law_1199 : decode cL_law 1199 = .ok (.ireturn, 1) := by decide +kernel
