set_option maxRecDepth 20000 in
theorem ggL_law_X1_init : GoodIn wsL_law wsX1_init := goodIn_r _ [7, 8, 9, 10, 11, 12, 13, 14, 15, 16, 17, 18, 19, 20, 21, 22, 3, 23, 24, 25, 26, 27, 28, 29, 30, 31, 32, 33, 343, 344, 345, 346, 347, 348, 349, 350, 351, 352, 353, 354, 355, 356, 357, 336, 337] (by decide +kernel) (by decide +kernel)
set_option maxRecDepth 20000 in
theorem gL_law_X1_init : GoodIn wsL_law (wsX1_init) := ggL_law_X1_init
set_option maxRecDepth 20000 in
theorem ggL_law_L_build_k0 : GoodIn wsL_law ([.code yL_build cL_build 6 (some (.object "SleepBorderLaw$Sim"))] : List Cond) := goodIn_r _ [37] (by decide +kernel) (by decide +kernel)
set_option maxRecDepth 20000 in
theorem ggL_law_L_build_k1 : GoodIn wsL_law (wsL_build_r1) := goodIn_r _ [38, 39, 40, 41, 3, 42, 43, 44, 9, 10, 45, 46, 47, 48, 49, 36, 50, 51, 52, 53, 54, 55, 56, 57] (by decide +kernel) (by decide +kernel)
set_option maxRecDepth 20000 in
theorem ggL_law_L_build_k2 : GoodIn wsL_law (wsL_build_r2) := goodIn_r _ [58, 59, 60, 61, 2, 62, 63, 64, 14, 65, 66, 67, 68, 13, 69, 30, 31, 32, 33, 70, 71, 72, 4, 73] (by decide +kernel) (by decide +kernel)
set_option maxRecDepth 20000 in
theorem ggL_law_L_build_k3 : GoodIn wsL_law (wsL_build_r3) := goodIn_r _ [74, 75, 76, 77, 78, 79, 80, 81, 82, 83, 84, 85, 86, 87, 88, 89, 22, 23, 24, 25, 26, 27, 90, 91] (by decide +kernel) (by decide +kernel)
set_option maxRecDepth 20000 in
theorem ggL_law_L_build_k4 : GoodIn wsL_law (wsL_build_r4) := goodIn_r _ [92, 93, 94, 95, 96, 97, 98, 99, 100, 101, 102, 103, 104, 105, 106, 107, 108, 109, 110, 111, 112, 113, 114, 115] (by decide +kernel) (by decide +kernel)
set_option maxRecDepth 20000 in
theorem ggL_law_L_build_k5 : GoodIn wsL_law (wsL_build_r5) := goodIn_r _ [116, 117, 118, 119, 120, 121, 122, 123, 124, 125, 126, 127, 128, 129, 130, 131, 132, 133, 134, 135, 136, 137, 138, 139] (by decide +kernel) (by decide +kernel)
set_option maxRecDepth 20000 in
theorem ggL_law_L_build_k6 : GoodIn wsL_law (wsL_build_r6) := goodIn_r _ [19, 140, 141, 142, 143, 28, 29, 144, 145, 146, 147, 20, 148, 149, 150, 151, 152, 21, 153, 154, 155, 156, 157, 158] (by decide +kernel) (by decide +kernel)
set_option maxRecDepth 20000 in
theorem ggL_law_L_build_k7 : GoodIn wsL_law (wsL_build_r7) := goodIn_r _ [159, 160, 161, 162, 163, 164, 165, 166, 167, 168, 169, 170, 171, 172, 173, 174, 175, 176, 177, 178, 179, 180, 181, 182] (by decide +kernel) (by decide +kernel)
set_option maxRecDepth 20000 in
theorem ggL_law_L_build_k8 : GoodIn wsL_law (wsL_build_r8) := goodIn_r _ [183, 184, 185, 186, 187, 188, 189, 190, 191, 192, 193, 194, 195, 196, 197, 198, 199, 200, 201, 202, 203, 204, 205, 206] (by decide +kernel) (by decide +kernel)
set_option maxRecDepth 20000 in
theorem ggL_law_L_build_k9 : GoodIn wsL_law (wsL_build_r9) := goodIn_r _ [207, 208, 209, 210, 211, 212, 213] (by decide +kernel) (by decide +kernel)
set_option maxRecDepth 20000 in
theorem ggL_law_L_build_k10 : GoodIn wsL_law (wsX20) := goodIn_r _ [338, 339, 340, 341, 342] (by decide +kernel) (by decide +kernel)
set_option maxRecDepth 20000 in
theorem ggL_law_L_build_k11 : GoodIn wsL_law (wsX10) := goodIn_r _ [336, 337] (by decide +kernel) (by decide +kernel)
set_option maxRecDepth 20000 in
theorem ggL_law_L_build_k12 : GoodIn wsL_law (wsX00) := goodIn_r _ [343, 344, 345, 346, 347, 348, 349, 350, 351, 352, 353, 354, 355, 356, 357] (by decide +kernel) (by decide +kernel)
theorem ggL_law_L_build_in : GoodIn wsL_law (.code yL_build cL_build 6 (some (.object "SleepBorderLaw$Sim")) :: ((((wsL_build_r1 ++ (wsL_build_r2 ++ (wsL_build_r3 ++ (wsL_build_r4 ++ (wsL_build_r5 ++ (wsL_build_r6 ++ (wsL_build_r7 ++ (wsL_build_r8 ++ wsL_build_r9)))))))) ++ wsX20) ++ wsX10) ++ wsX00)) := fun w h => (List.mem_cons.mp h).elim (fun e => ggL_law_L_build_k0 w (by rw [e]; exact List.mem_cons_self)) (fun h => (goodIn_app (goodIn_app (goodIn_app (goodIn_app ggL_law_L_build_k1 (goodIn_app ggL_law_L_build_k2 (goodIn_app ggL_law_L_build_k3 (goodIn_app ggL_law_L_build_k4 (goodIn_app ggL_law_L_build_k5 (goodIn_app ggL_law_L_build_k6 (goodIn_app ggL_law_L_build_k7 (goodIn_app ggL_law_L_build_k8 ggL_law_L_build_k9)))))))) ggL_law_L_build_k10) ggL_law_L_build_k11) ggL_law_L_build_k12) w h)
set_option maxRecDepth 20000 in
theorem ggL_law_L_build : GoodIn wsL_law wsL_build := goodIn_ca (goodIn_ca (goodIn_ca (ggL_law_L_build_in) (goodIn_sub (fun _ h => List.mem_append_left _ (List.mem_append_left _ (List.mem_append_right _ h))) (by decide +kernel))) (goodIn_sub (fun _ h => List.mem_append_left _ (List.mem_append_right _ h)) (by decide +kernel))) (goodIn_sub (fun _ h => List.mem_append_right _ h) (by decide +kernel))
set_option maxRecDepth 20000 in
theorem gL_law_L_build : GoodIn wsL_law (va_wsS RL 64 yL_build wsL_build) := goodIn_app (goodIn_of _ (by decide +kernel)) ggL_law_L_build
set_option maxRecDepth 20000 in
theorem ggL_law_L_cell : GoodIn wsL_law wsL_cell := goodIn_r _ [50, 51] (by decide +kernel) (by decide +kernel)
set_option maxRecDepth 20000 in
theorem gL_law_L_cell : GoodIn wsL_law (va_wsS RL 55 yL_cell wsL_cell) := goodIn_app (goodIn_of _ (by decide +kernel)) ggL_law_L_cell
set_option maxRecDepth 20000 in
theorem ggL_law_L_act_k0 : GoodIn wsL_law ([.code yL_act cL_act 13 (some .boolean)] : List Cond) := goodIn_r _ [72] (by decide +kernel) (by decide +kernel)
set_option maxRecDepth 20000 in
theorem ggL_law_L_act_k1 : GoodIn wsL_law (wsL_act_r1) := goodIn_r _ [4, 41, 3, 52, 53, 36, 54, 55, 56, 57, 40, 58, 45, 59, 60, 61, 2, 62, 63, 64, 14, 65, 66, 67] (by decide +kernel) (by decide +kernel)
set_option maxRecDepth 20000 in
theorem ggL_law_L_act_k2 : GoodIn wsL_law (wsL_act_r2) := goodIn_r _ [68, 13, 69, 30, 31, 32, 33, 73, 74, 75, 76, 77, 78, 79, 80, 81, 82, 83, 84, 85, 86, 87, 88, 89] (by decide +kernel) (by decide +kernel)
set_option maxRecDepth 20000 in
theorem ggL_law_L_act_k3 : GoodIn wsL_law (wsL_act_r3) := goodIn_r _ [22, 23, 24, 25, 26, 27, 90, 91, 92, 93, 94, 95, 96, 97, 98, 99, 100, 101, 102, 103, 104, 105, 106, 107] (by decide +kernel) (by decide +kernel)
set_option maxRecDepth 20000 in
theorem ggL_law_L_act_k4 : GoodIn wsL_law (wsL_act_r4) := goodIn_r _ [108, 109, 110, 111, 112, 113, 114, 115, 116, 117, 118, 119, 120, 121, 122, 123, 124, 125, 126, 127, 128, 129, 130, 131] (by decide +kernel) (by decide +kernel)
set_option maxRecDepth 20000 in
theorem ggL_law_L_act_k5 : GoodIn wsL_law (wsL_act_r5) := goodIn_r _ [132, 133, 134, 135, 136, 137, 138, 139, 19, 140, 141, 142, 143, 28, 29, 144, 145, 146, 147, 20, 148, 149, 150, 151] (by decide +kernel) (by decide +kernel)
set_option maxRecDepth 20000 in
theorem ggL_law_L_act_k6 : GoodIn wsL_law (wsL_act_r6) := goodIn_r _ [152, 21, 153, 154, 155, 156, 157, 158, 159, 160, 161, 162, 163, 164, 165, 166, 167, 168, 169, 170, 171, 172, 173, 174] (by decide +kernel) (by decide +kernel)
set_option maxRecDepth 20000 in
theorem ggL_law_L_act_k7 : GoodIn wsL_law (wsL_act_r7) := goodIn_r _ [175, 176, 177, 178, 179, 180, 181, 182, 183, 184, 185, 186, 187, 188, 189, 190, 191, 47, 192, 193, 194, 195, 46, 196] (by decide +kernel) (by decide +kernel)
set_option maxRecDepth 20000 in
theorem ggL_law_L_act_k8 : GoodIn wsL_law (wsL_act_r8) := goodIn_r _ [197, 198, 199, 200, 201, 202, 203, 204, 205, 206, 207, 208, 209, 210, 211, 212, 213] (by decide +kernel) (by decide +kernel)
set_option maxRecDepth 20000 in
theorem ggL_law_L_act_k9 : GoodIn wsL_law (wsX20) := goodIn_r _ [338, 339, 340, 341, 342] (by decide +kernel) (by decide +kernel)
set_option maxRecDepth 20000 in
theorem ggL_law_L_act_k10 : GoodIn wsL_law (wsX10) := goodIn_r _ [336, 337] (by decide +kernel) (by decide +kernel)
set_option maxRecDepth 20000 in
theorem ggL_law_L_act_k11 : GoodIn wsL_law (wsX00) := goodIn_r _ [343, 344, 345, 346, 347, 348, 349, 350, 351, 352, 353, 354, 355, 356, 357] (by decide +kernel) (by decide +kernel)
theorem ggL_law_L_act_in : GoodIn wsL_law (.code yL_act cL_act 13 (some .boolean) :: ((((wsL_act_r1 ++ (wsL_act_r2 ++ (wsL_act_r3 ++ (wsL_act_r4 ++ (wsL_act_r5 ++ (wsL_act_r6 ++ (wsL_act_r7 ++ wsL_act_r8))))))) ++ wsX20) ++ wsX10) ++ wsX00)) := fun w h => (List.mem_cons.mp h).elim (fun e => ggL_law_L_act_k0 w (by rw [e]; exact List.mem_cons_self)) (fun h => (goodIn_app (goodIn_app (goodIn_app (goodIn_app ggL_law_L_act_k1 (goodIn_app ggL_law_L_act_k2 (goodIn_app ggL_law_L_act_k3 (goodIn_app ggL_law_L_act_k4 (goodIn_app ggL_law_L_act_k5 (goodIn_app ggL_law_L_act_k6 (goodIn_app ggL_law_L_act_k7 ggL_law_L_act_k8))))))) ggL_law_L_act_k9) ggL_law_L_act_k10) ggL_law_L_act_k11) w h)
set_option maxRecDepth 20000 in
theorem ggL_law_L_act : GoodIn wsL_law wsL_act := goodIn_ca (goodIn_ca (goodIn_ca (ggL_law_L_act_in) (goodIn_sub (fun _ h => List.mem_append_left _ (List.mem_append_left _ (List.mem_append_right _ h))) (by decide +kernel))) (goodIn_sub (fun _ h => List.mem_append_left _ (List.mem_append_right _ h)) (by decide +kernel))) (goodIn_sub (fun _ h => List.mem_append_right _ h) (by decide +kernel))
set_option maxRecDepth 20000 in
theorem gL_law_L_act : GoodIn wsL_law (va_wsS RL 59 yL_act wsL_act) := goodIn_app (goodIn_of _ (by decide +kernel)) ggL_law_L_act
set_option maxRecDepth 20000 in
theorem ggL_law_X1_travellers : GoodIn wsL_law wsX1_travellers := goodIn_r _ [217, 14, 77, 336, 337, 343, 344, 345, 346, 347, 348, 349, 350, 351, 352, 353, 354, 355, 356, 357] (by decide +kernel) (by decide +kernel)
set_option maxRecDepth 20000 in
theorem gL_law_X1_travellers : GoodIn wsL_law (wsV RL 68 RX1 yX1_travellers wsX1_travellers) := goodIn_app (goodIn_of _ (by decide +kernel)) ggL_law_X1_travellers
set_option maxRecDepth 20000 in
theorem ggL_law_X1_guards : GoodIn wsL_law wsX1_guards := goodIn_r _ [221, 14, 65, 336, 337, 343, 344, 345, 346, 347, 348, 349, 350, 351, 352, 353, 354, 355, 356, 357] (by decide +kernel) (by decide +kernel)
set_option maxRecDepth 20000 in
theorem gL_law_X1_guards : GoodIn wsL_law (wsV RL 70 RX1 yX1_guards wsX1_guards) := goodIn_app (goodIn_of _ (by decide +kernel)) ggL_law_X1_guards
set_option maxRecDepth 20000 in
theorem ggL_law_X1_searches : GoodIn wsL_law wsX1_searches := goodIn_ca (goodIn_r _ [225, 14, 226, 120, 121, 122, 2, 123, 99, 100, 124, 125, 126, 13, 127, 30, 336, 337, 343, 344, 345, 346, 347, 348, 349, 350, 351, 352, 353, 354, 355, 356, 357] (by decide +kernel) (by decide +kernel)) (goodIn_sub (fun _ h => List.mem_append_right _ h) (by decide +kernel))
set_option maxRecDepth 20000 in
theorem gL_law_X1_searches : GoodIn wsL_law (wsV RL 72 RX1 yX1_searches wsX1_searches) := goodIn_app (goodIn_of _ (by decide +kernel)) ggL_law_X1_searches
set_option maxRecDepth 20000 in
theorem ggL_law_X1_alertnessOf : GoodIn wsL_law wsX1_alertnessOf := goodIn_ca (goodIn_r _ [230, 14, 119, 120, 121, 122, 2, 123, 99, 100, 124, 125, 126, 13, 127, 30, 336, 337, 343, 344, 345, 346, 347, 348, 349, 350, 351, 352, 353, 354, 355, 356, 357] (by decide +kernel) (by decide +kernel)) (goodIn_sub (fun _ h => List.mem_append_right _ h) (by decide +kernel))
set_option maxRecDepth 20000 in
theorem gL_law_X1_alertnessOf : GoodIn wsL_law (wsV RL 75 RX1 yX1_alertnessOf wsX1_alertnessOf) := goodIn_app (goodIn_of _ (by decide +kernel)) ggL_law_X1_alertnessOf
set_option maxRecDepth 20000 in
theorem ggL_law_X1_mostAlert : GoodIn wsL_law wsX1_mostAlert := goodIn_r _ [234, 14, 65, 119, 336, 337, 343, 344, 345, 346, 347, 348, 349, 350, 351, 352, 353, 354, 355, 356, 357] (by decide +kernel) (by decide +kernel)
set_option maxRecDepth 20000 in
theorem gL_law_X1_mostAlert : GoodIn wsL_law (wsV RL 78 RX1 yX1_mostAlert wsX1_mostAlert) := goodIn_app (goodIn_of _ (by decide +kernel)) ggL_law_X1_mostAlert
set_option maxRecDepth 20000 in
theorem ggL_law_X1_minutesToGo : GoodIn wsL_law wsX1_minutesToGo := goodIn_ca (goodIn_r _ [238, 14, 239, 120, 121, 122, 2, 123, 99, 100, 124, 125, 126, 13, 127, 30, 336, 337, 343, 344, 345, 346, 347, 348, 349, 350, 351, 352, 353, 354, 355, 356, 357] (by decide +kernel) (by decide +kernel)) (goodIn_sub (fun _ h => List.mem_append_right _ h) (by decide +kernel))
set_option maxRecDepth 20000 in
theorem gL_law_X1_minutesToGo : GoodIn wsL_law (wsV RL 81 RX1 yX1_minutesToGo wsX1_minutesToGo) := goodIn_app (goodIn_of _ (by decide +kernel)) ggL_law_X1_minutesToGo
set_option maxRecDepth 20000 in
theorem ggL_law_X1_stateOf : GoodIn wsL_law wsX1_stateOf := goodIn_ca (goodIn_r _ [243, 14, 109, 95, 96, 97, 2, 98, 99, 100, 101, 102, 103, 13, 104, 22, 336, 337, 343, 344, 345, 346, 347, 348, 349, 350, 351, 352, 353, 354, 355, 356, 357] (by decide +kernel) (by decide +kernel)) (goodIn_sub (fun _ h => List.mem_append_right _ h) (by decide +kernel))
set_option maxRecDepth 20000 in
theorem gL_law_X1_stateOf : GoodIn wsL_law (wsV RL 84 RX1 yX1_stateOf wsX1_stateOf) := goodIn_app (goodIn_of _ (by decide +kernel)) ggL_law_X1_stateOf
set_option maxRecDepth 20000 in
theorem ggL_law_X1_lullabyOf : GoodIn wsL_law wsX1_lullabyOf := goodIn_ca (goodIn_r _ [247, 14, 114, 95, 96, 97, 2, 98, 99, 100, 101, 102, 103, 13, 104, 22, 336, 337, 343, 344, 345, 346, 347, 348, 349, 350, 351, 352, 353, 354, 355, 356, 357] (by decide +kernel) (by decide +kernel)) (goodIn_sub (fun _ h => List.mem_append_right _ h) (by decide +kernel))
set_option maxRecDepth 20000 in
theorem gL_law_X1_lullabyOf : GoodIn wsL_law (wsV RL 87 RX1 yX1_lullabyOf wsX1_lullabyOf) := goodIn_app (goodIn_of _ (by decide +kernel)) ggL_law_X1_lullabyOf
set_option maxRecDepth 20000 in
theorem ggL_law_X1_nextInLine : GoodIn wsL_law wsX1_nextInLine := goodIn_r _ [251, 14, 252, 173, 174, 13, 175, 22, 27, 336, 337, 343, 344, 345, 346, 347, 348, 349, 350, 351, 352, 353, 354, 355, 356, 357] (by decide +kernel) (by decide +kernel)
set_option maxRecDepth 20000 in
theorem gL_law_X1_nextInLine : GoodIn wsL_law (wsV RL 90 RX1 yX1_nextInLine wsX1_nextInLine) := goodIn_app (goodIn_of _ (by decide +kernel)) ggL_law_X1_nextInLine
set_option maxRecDepth 20000 in
theorem ggL_law_X1_placeInLine : GoodIn wsL_law wsX1_placeInLine := goodIn_ca (goodIn_r _ [256, 14, 109, 95, 96, 97, 2, 98, 99, 100, 101, 102, 103, 13, 104, 22, 257, 258, 259, 260, 27, 336, 337, 343, 344, 345, 346, 347, 348, 349, 350, 351, 352, 353, 354, 355, 356, 357] (by decide +kernel) (by decide +kernel)) (goodIn_sub (fun _ h => List.mem_append_right _ h) (by decide +kernel))
set_option maxRecDepth 20000 in
theorem gL_law_X1_placeInLine : GoodIn wsL_law (wsV RL 93 RX1 yX1_placeInLine wsX1_placeInLine) := goodIn_app (goodIn_of _ (by decide +kernel)) ggL_law_X1_placeInLine
set_option maxRecDepth 20000 in
theorem ggL_law_X1_hiddenOf : GoodIn wsL_law wsX1_hiddenOf := goodIn_ca (goodIn_r _ [264, 14, 95, 96, 97, 2, 98, 99, 100, 101, 102, 103, 13, 104, 22, 265, 162, 163, 164, 23, 24, 336, 337, 343, 344, 345, 346, 347, 348, 349, 350, 351, 352, 353, 354, 355, 356, 357] (by decide +kernel) (by decide +kernel)) (goodIn_sub (fun _ h => List.mem_append_right _ h) (by decide +kernel))
set_option maxRecDepth 20000 in
theorem gL_law_X1_hiddenOf : GoodIn wsL_law (wsV RL 96 RX1 yX1_hiddenOf wsX1_hiddenOf) := goodIn_app (goodIn_of _ (by decide +kernel)) ggL_law_X1_hiddenOf
set_option maxRecDepth 20000 in
theorem ggL_law_X1_searchTime : GoodIn wsL_law wsX1_searchTime := goodIn_ca (goodIn_r _ [269, 14, 95, 96, 97, 2, 98, 99, 100, 101, 102, 103, 13, 104, 22, 270, 177, 178, 179, 24, 180, 181, 182, 183, 27, 25, 336, 337, 343, 344, 345, 346, 347, 348, 349, 350, 351, 352, 353, 354, 355, 356, 357] (by decide +kernel) (by decide +kernel)) (goodIn_sub (fun _ h => List.mem_append_right _ h) (by decide +kernel))
set_option maxRecDepth 20000 in
theorem gL_law_X1_searchTime : GoodIn wsL_law (wsV RL 99 RX1 yX1_searchTime wsX1_searchTime) := goodIn_app (goodIn_of _ (by decide +kernel)) ggL_law_X1_searchTime
set_option maxRecDepth 20000 in
theorem ggL_law_X1_noise : GoodIn wsL_law wsX1_noise := goodIn_r _ [274, 14, 275, 181, 182, 13, 183, 22, 27, 25, 336, 337, 343, 344, 345, 346, 347, 348, 349, 350, 351, 352, 353, 354, 355, 356, 357] (by decide +kernel) (by decide +kernel)
set_option maxRecDepth 20000 in
theorem gL_law_X1_noise : GoodIn wsL_law (wsV RL 102 RX1 yX1_noise wsX1_noise) := goodIn_app (goodIn_of _ (by decide +kernel)) ggL_law_X1_noise
set_option maxRecDepth 20000 in
theorem ggL_law_X1_waiting : GoodIn wsL_law wsX1_waiting := goodIn_r _ [279, 14, 132, 133, 134, 13, 135, 22, 27, 336, 337, 343, 344, 345, 346, 347, 348, 349, 350, 351, 352, 353, 354, 355, 356, 357] (by decide +kernel) (by decide +kernel)
set_option maxRecDepth 20000 in
theorem gL_law_X1_waiting : GoodIn wsL_law (wsV RL 105 RX1 yX1_waiting wsX1_waiting) := goodIn_app (goodIn_of _ (by decide +kernel)) ggL_law_X1_waiting
set_option maxRecDepth 20000 in
theorem ggL_law_X1_asleep : GoodIn wsL_law wsX1_asleep := goodIn_r _ [283, 14, 132, 133, 134, 13, 135, 22, 27, 336, 337, 343, 344, 345, 346, 347, 348, 349, 350, 351, 352, 353, 354, 355, 356, 357] (by decide +kernel) (by decide +kernel)
set_option maxRecDepth 20000 in
theorem gL_law_X1_asleep : GoodIn wsL_law (wsV RL 108 RX1 yX1_asleep wsX1_asleep) := goodIn_app (goodIn_of _ (by decide +kernel)) ggL_law_X1_asleep
set_option maxRecDepth 20000 in
theorem ggL_law_X1_sentBack : GoodIn wsL_law wsX1_sentBack := goodIn_r _ [287, 14, 132, 133, 134, 13, 135, 22, 27, 336, 337, 343, 344, 345, 346, 347, 348, 349, 350, 351, 352, 353, 354, 355, 356, 357] (by decide +kernel) (by decide +kernel)
set_option maxRecDepth 20000 in
theorem gL_law_X1_sentBack : GoodIn wsL_law (wsV RL 111 RX1 yX1_sentBack wsX1_sentBack) := goodIn_app (goodIn_of _ (by decide +kernel)) ggL_law_X1_sentBack
set_option maxRecDepth 20000 in
theorem ggL_law_X1_expired : GoodIn wsL_law wsX1_expired := goodIn_r _ [291, 14, 292, 336, 337, 343, 344, 345, 346, 347, 348, 349, 350, 351, 352, 353, 354, 355, 356, 357] (by decide +kernel) (by decide +kernel)
set_option maxRecDepth 20000 in
theorem gL_law_X1_expired : GoodIn wsL_law (wsV RL 114 RX1 yX1_expired wsX1_expired) := goodIn_app (goodIn_of _ (by decide +kernel)) ggL_law_X1_expired
set_option maxRecDepth 20000 in
theorem ggL_law_X1_paid : GoodIn wsL_law wsX1_paid := goodIn_r _ [296, 14, 297, 336, 337, 343, 344, 345, 346, 347, 348, 349, 350, 351, 352, 353, 354, 355, 356, 357] (by decide +kernel) (by decide +kernel)
set_option maxRecDepth 20000 in
theorem gL_law_X1_paid : GoodIn wsL_law (wsV RL 117 RX1 yX1_paid wsX1_paid) := goodIn_app (goodIn_of _ (by decide +kernel)) ggL_law_X1_paid
set_option maxRecDepth 20000 in
theorem ggL_law_X1_minute : GoodIn wsL_law wsX1_minute := goodIn_r _ [301, 14, 302, 336, 337, 343, 344, 345, 346, 347, 348, 349, 350, 351, 352, 353, 354, 355, 356, 357] (by decide +kernel) (by decide +kernel)
set_option maxRecDepth 20000 in
theorem gL_law_X1_minute : GoodIn wsL_law (wsV RL 120 RX1 yX1_minute wsX1_minute) := goodIn_app (goodIn_of _ (by decide +kernel)) ggL_law_X1_minute
set_option maxRecDepth 20000 in
theorem ggL_law_X1_pass_k0 : GoodIn wsL_law ([.code yX1_pass cX1_pass 4 (some .int)] : List Cond) := goodIn_r _ [131] (by decide +kernel) (by decide +kernel)
set_option maxRecDepth 20000 in
theorem ggL_law_X1_pass_k1 : GoodIn wsL_law (wsX1_pass_r1) := goodIn_r _ [14, 83, 84, 2, 85, 81, 82, 132, 133, 134, 13, 135, 22, 27, 136, 137, 138, 139, 30, 32, 19, 140, 141, 142] (by decide +kernel) (by decide +kernel)
set_option maxRecDepth 20000 in
theorem ggL_law_X1_pass_k2 : GoodIn wsL_law (wsX1_pass_r2) := goodIn_r _ [143, 28, 29, 144, 145, 146, 147, 26, 20, 148, 102, 103, 104, 149, 150, 151, 152, 33, 21, 31, 153, 154, 155, 156] (by decide +kernel) (by decide +kernel)
set_option maxRecDepth 20000 in
theorem ggL_law_X1_pass_k3 : GoodIn wsL_law (wsX1_pass_r3) := goodIn_r _ [157, 158, 159, 160, 161, 162, 163, 164, 23, 24, 165, 166, 167, 168, 169, 170, 171, 172, 173, 174, 175, 176, 177, 178] (by decide +kernel) (by decide +kernel)
set_option maxRecDepth 20000 in
theorem ggL_law_X1_pass_k4 : GoodIn wsL_law (wsX1_pass_r4) := goodIn_r _ [179, 180, 181, 182, 183, 25] (by decide +kernel) (by decide +kernel)
set_option maxRecDepth 20000 in
theorem ggL_law_X1_pass_k5 : GoodIn wsL_law (wsX10) := goodIn_r _ [336, 337] (by decide +kernel) (by decide +kernel)
set_option maxRecDepth 20000 in
theorem ggL_law_X1_pass_k6 : GoodIn wsL_law (wsX00) := goodIn_r _ [343, 344, 345, 346, 347, 348, 349, 350, 351, 352, 353, 354, 355, 356, 357] (by decide +kernel) (by decide +kernel)
theorem ggL_law_X1_pass_in : GoodIn wsL_law (.code yX1_pass cX1_pass 4 (some .int) :: (((wsX1_pass_r1 ++ (wsX1_pass_r2 ++ (wsX1_pass_r3 ++ wsX1_pass_r4))) ++ wsX10) ++ wsX00)) := fun w h => (List.mem_cons.mp h).elim (fun e => ggL_law_X1_pass_k0 w (by rw [e]; exact List.mem_cons_self)) (fun h => (goodIn_app (goodIn_app (goodIn_app ggL_law_X1_pass_k1 (goodIn_app ggL_law_X1_pass_k2 (goodIn_app ggL_law_X1_pass_k3 ggL_law_X1_pass_k4))) ggL_law_X1_pass_k5) ggL_law_X1_pass_k6) w h)
set_option maxRecDepth 20000 in
theorem ggL_law_X1_pass : GoodIn wsL_law wsX1_pass := goodIn_ca (ggL_law_X1_pass_in) (goodIn_sub (fun _ h => List.mem_append_left _ (List.mem_append_right _ h)) (by decide +kernel))
set_option maxRecDepth 20000 in
theorem gL_law_X1_pass : GoodIn wsL_law (wsV RL 48 RX1 yX1_pass wsX1_pass) := goodIn_app (goodIn_of _ (by decide +kernel)) ggL_law_X1_pass
set_option maxRecDepth 20000 in
theorem ggL_law_X2_pass : GoodIn wsL_law wsX2_pass := goodIn_r _ [195, 46, 196, 47, 197, 198, 199, 200, 201, 202, 40, 203, 204, 205, 206, 207, 208, 209, 210, 211, 212, 213, 338, 339, 340, 341, 342] (by decide +kernel) (by decide +kernel)
set_option maxRecDepth 20000 in
theorem gL_law_X2_pass : GoodIn wsL_law (wsV RL 123 RX2 yX2_pass wsX2_pass) := goodIn_app (goodIn_of _ (by decide +kernel)) ggL_law_X2_pass
set_option maxRecDepth 20000 in
theorem ggL_law_X2_isSame_k0 : GoodIn wsL_law ([.code yX2_isSame cX2_isSame 8 (some .boolean)] : List Cond) := goodIn_r _ [307] (by decide +kernel) (by decide +kernel)
set_option maxRecDepth 20000 in
theorem ggL_law_X2_isSame_k1 : GoodIn wsL_law (wsX2_isSame_r1) := goodIn_r _ [199, 47, 197, 198, 46, 308, 299, 300, 2, 301, 14, 302, 309, 215, 216, 217, 77, 310, 277, 278, 279, 132, 133, 134] (by decide +kernel) (by decide +kernel)
set_option maxRecDepth 20000 in
theorem ggL_law_X2_isSame_k2 : GoodIn wsL_law (wsX2_isSame_r2) := goodIn_r _ [13, 135, 22, 27, 188, 189, 190, 40, 191, 311, 281, 282, 283, 312, 285, 286, 287, 313, 289, 290, 291, 292, 314, 294] (by decide +kernel) (by decide +kernel)
set_option maxRecDepth 20000 in
theorem ggL_law_X2_isSame_k3 : GoodIn wsL_law (wsX2_isSame_r3) := goodIn_r _ [295, 296, 297, 315, 272, 273, 274, 275, 181, 182, 183, 25, 204, 205, 206, 207, 316, 249, 250, 251, 252, 173, 174, 175] (by decide +kernel) (by decide +kernel)
set_option maxRecDepth 20000 in
theorem ggL_law_X2_isSame_k4 : GoodIn wsL_law (wsX2_isSame_r4) := goodIn_r _ [200, 201, 202, 203, 317, 219, 220, 221, 65, 318, 241, 242, 243, 109, 95, 96, 97, 98, 99, 100, 101, 102, 103, 104] (by decide +kernel) (by decide +kernel)
set_option maxRecDepth 20000 in
theorem ggL_law_X2_isSame_k5 : GoodIn wsL_law (wsX2_isSame_r5) := goodIn_r _ [319, 262, 263, 264, 265, 162, 163, 164, 23, 24, 211, 212, 213, 320, 245, 246, 247, 114, 321, 254, 255, 256, 257, 258] (by decide +kernel) (by decide +kernel)
set_option maxRecDepth 20000 in
theorem ggL_law_X2_isSame_k6 : GoodIn wsL_law (wsX2_isSame_r6) := goodIn_r _ [259, 260, 322, 267, 268, 269, 270, 177, 178, 179, 180, 323, 228, 229, 230, 119, 120, 121, 122, 123, 124, 125, 126, 127] (by decide +kernel) (by decide +kernel)
set_option maxRecDepth 20000 in
theorem ggL_law_X2_isSame_k7 : GoodIn wsL_law (wsX2_isSame_r7) := goodIn_r _ [30, 324, 223, 224, 225, 226, 325, 236, 237, 238, 239, 326, 327, 328, 329, 330, 158, 159, 160, 31, 161, 208, 209, 210] (by decide +kernel) (by decide +kernel)
set_option maxRecDepth 20000 in
theorem ggL_law_X2_isSame_k8 : GoodIn wsL_law (wsX2_isSame_r8) := goodIn_r _ [331, 232, 233, 234, 332, 333, 334, 335] (by decide +kernel) (by decide +kernel)
set_option maxRecDepth 20000 in
theorem ggL_law_X2_isSame_k9 : GoodIn wsL_law (wsX20) := goodIn_r _ [338, 339, 340, 341, 342] (by decide +kernel) (by decide +kernel)
set_option maxRecDepth 20000 in
theorem ggL_law_X2_isSame_k10 : GoodIn wsL_law (wsX10) := goodIn_r _ [336, 337] (by decide +kernel) (by decide +kernel)
set_option maxRecDepth 20000 in
theorem ggL_law_X2_isSame_k11 : GoodIn wsL_law (wsX00) := goodIn_r _ [343, 344, 345, 346, 347, 348, 349, 350, 351, 352, 353, 354, 355, 356, 357] (by decide +kernel) (by decide +kernel)
theorem ggL_law_X2_isSame_in : GoodIn wsL_law (.code yX2_isSame cX2_isSame 8 (some .boolean) :: ((((wsX2_isSame_r1 ++ (wsX2_isSame_r2 ++ (wsX2_isSame_r3 ++ (wsX2_isSame_r4 ++ (wsX2_isSame_r5 ++ (wsX2_isSame_r6 ++ (wsX2_isSame_r7 ++ wsX2_isSame_r8))))))) ++ wsX20) ++ wsX10) ++ wsX00)) := fun w h => (List.mem_cons.mp h).elim (fun e => ggL_law_X2_isSame_k0 w (by rw [e]; exact List.mem_cons_self)) (fun h => (goodIn_app (goodIn_app (goodIn_app (goodIn_app ggL_law_X2_isSame_k1 (goodIn_app ggL_law_X2_isSame_k2 (goodIn_app ggL_law_X2_isSame_k3 (goodIn_app ggL_law_X2_isSame_k4 (goodIn_app ggL_law_X2_isSame_k5 (goodIn_app ggL_law_X2_isSame_k6 (goodIn_app ggL_law_X2_isSame_k7 ggL_law_X2_isSame_k8))))))) ggL_law_X2_isSame_k9) ggL_law_X2_isSame_k10) ggL_law_X2_isSame_k11) w h)
set_option maxRecDepth 20000 in
theorem ggL_law_X2_isSame : GoodIn wsL_law wsX2_isSame := goodIn_ca (ggL_law_X2_isSame_in) (goodIn_sub (fun _ h => List.mem_append_right _ h) (by decide +kernel))
set_option maxRecDepth 20000 in
theorem gL_law_X2_isSame : GoodIn wsL_law (wsV RL 125 RX2 yX2_isSame wsX2_isSame) := goodIn_app (goodIn_of _ (by decide +kernel)) ggL_law_X2_isSame
theorem dL_law_0 : decode cL_law 0 = .ok (.new 29, 3) := by decide +kernel
theorem dL_law_3 : decode cL_law 3 = .ok (.dup, 1) := by decide +kernel
theorem dL_law_4 : decode cL_law 4 = .ok (.invokespecial 63, 3) := by decide +kernel
theorem dL_law_7 : decode cL_law 7 = .ok (.astore_n 1, 1) := by decide +kernel
theorem dL_law_8 : decode cL_law 8 = .ok (.aload_n 1, 1) := by decide +kernel
theorem dL_law_9 : decode cL_law 9 = .ok (.aload_n 0, 1) := by decide +kernel
theorem dL_law_10 : decode cL_law 10 = .ok (.invokestatic 64, 3) := by decide +kernel
theorem dL_law_13 : decode cL_law 13 = .ok (.astore_n 2, 1) := by decide +kernel
theorem dL_law_14 : decode cL_law 14 = .ok (.aload_n 2, 1) := by decide +kernel
theorem dL_law_15 : decode cL_law 15 = .ok (.ifnonnull 5, 3) := by decide +kernel
theorem dL_law_18 : decode cL_law 18 = .ok (.iconst 0, 1) := by decide +kernel
theorem dL_law_19 : decode cL_law 19 = .ok (.ireturn, 1) := by decide +kernel
theorem dL_law_20 : decode cL_law 20 = .ok (.iconst 0, 1) := by decide +kernel
theorem dL_law_21 : decode cL_law 21 = .ok (.istore_n 3, 1) := by decide +kernel
theorem dL_law_22 : decode cL_law 22 = .ok (.iload_n 3, 1) := by decide +kernel
theorem dL_law_23 : decode cL_law 23 = .ok (.bipush 40, 2) := by decide +kernel
theorem dL_law_25 : decode cL_law 25 = .ok (.if_icmp .ge 879, 3) := by decide +kernel
theorem dL_law_28 : decode cL_law 28 = .ok (.aload_n 0, 1) := by decide +kernel
theorem dL_law_29 : decode cL_law 29 = .ok (.iload_n 3, 1) := by decide +kernel
theorem dL_law_30 : decode cL_law 30 = .ok (.bipush 16, 2) := by decide +kernel
theorem dL_law_32 : decode cL_law 32 = .ok (.irem, 1) := by decide +kernel
theorem dL_law_33 : decode cL_law 33 = .ok (.invokestatic 55, 3) := by decide +kernel
theorem dL_law_36 : decode cL_law 36 = .ok (.iload_n 3, 1) := by decide +kernel
theorem dL_law_37 : decode cL_law 37 = .ok (.bipush 16, 2) := by decide +kernel
theorem dL_law_39 : decode cL_law 39 = .ok (.idiv, 1) := by decide +kernel
theorem dL_law_40 : decode cL_law 40 = .ok (.iconst 3, 1) := by decide +kernel
theorem dL_law_41 : decode cL_law 41 = .ok (.imul, 1) := by decide +kernel
theorem dL_law_42 : decode cL_law 42 = .ok (.ishr, 1) := by decide +kernel
theorem dL_law_43 : decode cL_law 43 = .ok (.sipush 653, 3) := by decide +kernel
theorem dL_law_46 : decode cL_law 46 = .ok (.iload_n 3, 1) := by decide +kernel
theorem dL_law_47 : decode cL_law 47 = .ok (.imul, 1) := by decide +kernel
theorem dL_law_48 : decode cL_law 48 = .ok (.iadd, 1) := by decide +kernel
theorem dL_law_49 : decode cL_law 49 = .ok (.istore 4, 2) := by decide +kernel
theorem dL_law_51 : decode cL_law 51 = .ok (.aload_n 1, 1) := by decide +kernel
theorem dL_law_52 : decode cL_law 52 = .ok (.aload_n 2, 1) := by decide +kernel
theorem dL_law_53 : decode cL_law 53 = .ok (.iload 4, 2) := by decide +kernel
theorem dL_law_55 : decode cL_law 55 = .ok (.invokestatic 59, 3) := by decide +kernel
theorem dL_law_58 : decode cL_law 58 = .ok (.ifCond .ne 5, 3) := by decide +kernel
theorem dL_law_61 : decode cL_law 61 = .ok (.iconst 0, 1) := by decide +kernel
theorem dL_law_62 : decode cL_law 62 = .ok (.ireturn, 1) := by decide +kernel
theorem dL_law_63 : decode cL_law 63 = .ok (.aload_n 1, 1) := by decide +kernel
theorem dL_law_64 : decode cL_law 64 = .ok (.invokevirtual 68, 3) := by decide +kernel
theorem dL_law_67 : decode cL_law 67 = .ok (.istore 5, 2) := by decide +kernel
theorem dL_law_69 : decode cL_law 69 = .ok (.iload 5, 2) := by decide +kernel
theorem dL_law_71 : decode cL_law 71 = .ok (.newarray .int, 2) := by decide +kernel
theorem dL_law_73 : decode cL_law 73 = .ok (.astore 6, 2) := by decide +kernel
theorem dL_law_75 : decode cL_law 75 = .ok (.iload 5, 2) := by decide +kernel
theorem dL_law_77 : decode cL_law 77 = .ok (.newarray .int, 2) := by decide +kernel
theorem dL_law_79 : decode cL_law 79 = .ok (.astore 7, 2) := by decide +kernel
theorem dL_law_81 : decode cL_law 81 = .ok (.iconst 5, 1) := by decide +kernel
theorem dL_law_82 : decode cL_law 82 = .ok (.newarray .int, 2) := by decide +kernel
theorem dL_law_84 : decode cL_law 84 = .ok (.astore 8, 2) := by decide +kernel
theorem dL_law_86 : decode cL_law 86 = .ok (.iload 5, 2) := by decide +kernel
theorem dL_law_88 : decode cL_law 88 = .ok (.newarray .int, 2) := by decide +kernel
theorem dL_law_90 : decode cL_law 90 = .ok (.astore 9, 2) := by decide +kernel
theorem dL_law_92 : decode cL_law 92 = .ok (.iconst 0, 1) := by decide +kernel
theorem dL_law_93 : decode cL_law 93 = .ok (.istore 10, 2) := by decide +kernel
theorem dL_law_95 : decode cL_law 95 = .ok (.iconst 0, 1) := by decide +kernel
theorem dL_law_96 : decode cL_law 96 = .ok (.istore 11, 2) := by decide +kernel
theorem dL_law_98 : decode cL_law 98 = .ok (.iload 11, 2) := by decide +kernel
theorem dL_law_100 : decode cL_law 100 = .ok (.aload_n 1, 1) := by decide +kernel
theorem dL_law_101 : decode cL_law 101 = .ok (.invokevirtual 70, 3) := by decide +kernel
theorem dL_law_104 : decode cL_law 104 = .ok (.if_icmp .ge 106, 3) := by decide +kernel
theorem dL_law_107 : decode cL_law 107 = .ok (.aload_n 1, 1) := by decide +kernel
theorem dL_law_108 : decode cL_law 108 = .ok (.iload 11, 2) := by decide +kernel
theorem dL_law_110 : decode cL_law 110 = .ok (.invokevirtual 72, 3) := by decide +kernel
theorem dL_law_113 : decode cL_law 113 = .ok (.istore 12, 2) := by decide +kernel
theorem dL_law_115 : decode cL_law 115 = .ok (.aload_n 1, 1) := by decide +kernel
theorem dL_law_116 : decode cL_law 116 = .ok (.iload 11, 2) := by decide +kernel
theorem dL_law_118 : decode cL_law 118 = .ok (.invokevirtual 75, 3) := by decide +kernel
theorem dL_law_121 : decode cL_law 121 = .ok (.ifCond .lt 67, 3) := by decide +kernel
theorem dL_law_124 : decode cL_law 124 = .ok (.aload_n 1, 1) := by decide +kernel
theorem dL_law_125 : decode cL_law 125 = .ok (.iload 11, 2) := by decide +kernel
theorem dL_law_127 : decode cL_law 127 = .ok (.invokevirtual 75, 3) := by decide +kernel
theorem dL_law_130 : decode cL_law 130 = .ok (.bipush 9, 2) := by decide +kernel
theorem dL_law_132 : decode cL_law 132 = .ok (.if_icmp .gt 56, 3) := by decide +kernel
theorem dL_law_135 : decode cL_law 135 = .ok (.aload_n 1, 1) := by decide +kernel
theorem dL_law_136 : decode cL_law 136 = .ok (.iload 11, 2) := by decide +kernel
theorem dL_law_138 : decode cL_law 138 = .ok (.invokevirtual 75, 3) := by decide +kernel
theorem dL_law_141 : decode cL_law 141 = .ok (.aload_n 1, 1) := by decide +kernel
theorem dL_law_142 : decode cL_law 142 = .ok (.aload_n 1, 1) := by decide +kernel
theorem dL_law_143 : decode cL_law 143 = .ok (.invokevirtual 78, 3) := by decide +kernel
theorem dL_law_146 : decode cL_law 146 = .ok (.invokevirtual 75, 3) := by decide +kernel
theorem dL_law_149 : decode cL_law 149 = .ok (.if_icmp .gt 39, 3) := by decide +kernel
theorem dL_law_152 : decode cL_law 152 = .ok (.iload 12, 2) := by decide +kernel
theorem dL_law_154 : decode cL_law 154 = .ok (.ifCond .ge 7, 3) := by decide +kernel
theorem dL_law_157 : decode cL_law 157 = .ok (.iconst 1, 1) := by decide +kernel
theorem dL_law_158 : decode cL_law 158 = .ok (.goto 4, 3) := by decide +kernel
theorem dL_law_161 : decode cL_law 161 = .ok (.iconst 0, 1) := by decide +kernel
theorem dL_law_162 : decode cL_law 162 = .ok (.aload_n 1, 1) := by decide +kernel
theorem dL_law_163 : decode cL_law 163 = .ok (.iload 11, 2) := by decide +kernel
theorem dL_law_165 : decode cL_law 165 = .ok (.invokevirtual 81, 3) := by decide +kernel
theorem dL_law_168 : decode cL_law 168 = .ok (.ifCond .ne 7, 3) := by decide +kernel
theorem dL_law_171 : decode cL_law 171 = .ok (.iconst 1, 1) := by decide +kernel
theorem dL_law_172 : decode cL_law 172 = .ok (.goto 4, 3) := by decide +kernel
theorem dL_law_175 : decode cL_law 175 = .ok (.iconst 0, 1) := by decide +kernel
theorem dL_law_176 : decode cL_law 176 = .ok (.if_icmp .ne 12, 3) := by decide +kernel
theorem dL_law_179 : decode cL_law 179 = .ok (.aload_n 1, 1) := by decide +kernel
theorem dL_law_180 : decode cL_law 180 = .ok (.iload 11, 2) := by decide +kernel
theorem dL_law_182 : decode cL_law 182 = .ok (.invokevirtual 81, 3) := by decide +kernel
theorem dL_law_185 : decode cL_law 185 = .ok (.ifCond .ge 5, 3) := by decide +kernel
theorem dL_law_188 : decode cL_law 188 = .ok (.iconst 0, 1) := by decide +kernel
theorem dL_law_189 : decode cL_law 189 = .ok (.ireturn, 1) := by decide +kernel
theorem dL_law_190 : decode cL_law 190 = .ok (.iload 12, 2) := by decide +kernel
theorem dL_law_192 : decode cL_law 192 = .ok (.ifCond .lt 12, 3) := by decide +kernel
theorem dL_law_195 : decode cL_law 195 = .ok (.aload 9, 2) := by decide +kernel
theorem dL_law_197 : decode cL_law 197 = .ok (.iload 12, 2) := by decide +kernel
theorem dL_law_199 : decode cL_law 199 = .ok (.dup2, 1) := by decide +kernel
theorem dL_law_200 : decode cL_law 200 = .ok (.iaload, 1) := by decide +kernel
theorem dL_law_201 : decode cL_law 201 = .ok (.iconst 1, 1) := by decide +kernel
theorem dL_law_202 : decode cL_law 202 = .ok (.iadd, 1) := by decide +kernel
theorem dL_law_203 : decode cL_law 203 = .ok (.iastore, 1) := by decide +kernel
theorem dL_law_204 : decode cL_law 204 = .ok (.iinc 11 1, 3) := by decide +kernel
theorem dL_law_207 : decode cL_law 207 = .ok (.goto (-109), 3) := by decide +kernel
theorem dL_law_210 : decode cL_law 210 = .ok (.iconst 0, 1) := by decide +kernel
theorem dL_law_211 : decode cL_law 211 = .ok (.istore 11, 2) := by decide +kernel
theorem dL_law_213 : decode cL_law 213 = .ok (.iconst 0, 1) := by decide +kernel
theorem dL_law_214 : decode cL_law 214 = .ok (.istore 12, 2) := by decide +kernel
theorem dL_law_216 : decode cL_law 216 = .ok (.iload 12, 2) := by decide +kernel
theorem dL_law_218 : decode cL_law 218 = .ok (.iload 5, 2) := by decide +kernel
theorem dL_law_220 : decode cL_law 220 = .ok (.if_icmp .ge 232, 3) := by decide +kernel
theorem dL_law_223 : decode cL_law 223 = .ok (.aload 6, 2) := by decide +kernel
theorem dL_law_225 : decode cL_law 225 = .ok (.iload 12, 2) := by decide +kernel
theorem dL_law_227 : decode cL_law 227 = .ok (.aload_n 1, 1) := by decide +kernel
theorem dL_law_228 : decode cL_law 228 = .ok (.iload 12, 2) := by decide +kernel
theorem dL_law_230 : decode cL_law 230 = .ok (.invokevirtual 84, 3) := by decide +kernel
theorem dL_law_233 : decode cL_law 233 = .ok (.iastore, 1) := by decide +kernel
theorem dL_law_234 : decode cL_law 234 = .ok (.aload 7, 2) := by decide +kernel
theorem dL_law_236 : decode cL_law 236 = .ok (.iload 12, 2) := by decide +kernel
theorem dL_law_238 : decode cL_law 238 = .ok (.aload_n 1, 1) := by decide +kernel
theorem dL_law_239 : decode cL_law 239 = .ok (.iload 12, 2) := by decide +kernel
theorem dL_law_241 : decode cL_law 241 = .ok (.invokevirtual 87, 3) := by decide +kernel
theorem dL_law_244 : decode cL_law 244 = .ok (.iastore, 1) := by decide +kernel
theorem dL_law_245 : decode cL_law 245 = .ok (.aload 6, 2) := by decide +kernel
theorem dL_law_247 : decode cL_law 247 = .ok (.iload 12, 2) := by decide +kernel
theorem dL_law_249 : decode cL_law 249 = .ok (.iaload, 1) := by decide +kernel
theorem dL_law_250 : decode cL_law 250 = .ok (.ifCond .lt 12, 3) := by decide +kernel
theorem dL_law_253 : decode cL_law 253 = .ok (.aload 6, 2) := by decide +kernel
theorem dL_law_255 : decode cL_law 255 = .ok (.iload 12, 2) := by decide +kernel
theorem dL_law_257 : decode cL_law 257 = .ok (.iaload, 1) := by decide +kernel
theorem dL_law_258 : decode cL_law 258 = .ok (.iconst 4, 1) := by decide +kernel
theorem dL_law_259 : decode cL_law 259 = .ok (.if_icmp .le 5, 3) := by decide +kernel
theorem dL_law_262 : decode cL_law 262 = .ok (.iconst 0, 1) := by decide +kernel
theorem dL_law_263 : decode cL_law 263 = .ok (.ireturn, 1) := by decide +kernel
theorem dL_law_264 : decode cL_law 264 = .ok (.aload 8, 2) := by decide +kernel
theorem dL_law_266 : decode cL_law 266 = .ok (.aload 6, 2) := by decide +kernel
theorem dL_law_268 : decode cL_law 268 = .ok (.iload 12, 2) := by decide +kernel
theorem dL_law_270 : decode cL_law 270 = .ok (.iaload, 1) := by decide +kernel
theorem dL_law_271 : decode cL_law 271 = .ok (.dup2, 1) := by decide +kernel
theorem dL_law_272 : decode cL_law 272 = .ok (.iaload, 1) := by decide +kernel
theorem dL_law_273 : decode cL_law 273 = .ok (.iconst 1, 1) := by decide +kernel
theorem dL_law_274 : decode cL_law 274 = .ok (.iadd, 1) := by decide +kernel
theorem dL_law_275 : decode cL_law 275 = .ok (.iastore, 1) := by decide +kernel
theorem dL_law_276 : decode cL_law 276 = .ok (.aload 6, 2) := by decide +kernel
theorem dL_law_278 : decode cL_law 278 = .ok (.iload 12, 2) := by decide +kernel
theorem dL_law_280 : decode cL_law 280 = .ok (.iaload, 1) := by decide +kernel
theorem dL_law_281 : decode cL_law 281 = .ok (.ifCond .ne 19, 3) := by decide +kernel
theorem dL_law_284 : decode cL_law 284 = .ok (.iload 11, 2) := by decide +kernel
theorem dL_law_286 : decode cL_law 286 = .ok (.ifCond .ne 14, 3) := by decide +kernel
theorem dL_law_289 : decode cL_law 289 = .ok (.aload_n 1, 1) := by decide +kernel
theorem dL_law_290 : decode cL_law 290 = .ok (.invokevirtual 90, 3) := by decide +kernel
theorem dL_law_293 : decode cL_law 293 = .ok (.iload 12, 2) := by decide +kernel
theorem dL_law_295 : decode cL_law 295 = .ok (.if_icmp .eq 5, 3) := by decide +kernel
theorem dL_law_298 : decode cL_law 298 = .ok (.iconst 0, 1) := by decide +kernel
theorem dL_law_299 : decode cL_law 299 = .ok (.ireturn, 1) := by decide +kernel
theorem dL_law_300 : decode cL_law 300 = .ok (.aload 9, 2) := by decide +kernel
theorem dL_law_302 : decode cL_law 302 = .ok (.iload 12, 2) := by decide +kernel
theorem dL_law_304 : decode cL_law 304 = .ok (.iaload, 1) := by decide +kernel
theorem dL_law_305 : decode cL_law 305 = .ok (.aload 6, 2) := by decide +kernel
theorem dL_law_307 : decode cL_law 307 = .ok (.iload 12, 2) := by decide +kernel
theorem dL_law_309 : decode cL_law 309 = .ok (.iaload, 1) := by decide +kernel
theorem dL_law_310 : decode cL_law 310 = .ok (.iconst 1, 1) := by decide +kernel
theorem dL_law_311 : decode cL_law 311 = .ok (.if_icmp .ne 7, 3) := by decide +kernel
theorem dL_law_314 : decode cL_law 314 = .ok (.iconst 1, 1) := by decide +kernel
theorem dL_law_315 : decode cL_law 315 = .ok (.goto 4, 3) := by decide +kernel
theorem dL_law_318 : decode cL_law 318 = .ok (.iconst 0, 1) := by decide +kernel
theorem dL_law_319 : decode cL_law 319 = .ok (.if_icmp .ne 80, 3) := by decide +kernel
theorem dL_law_322 : decode cL_law 322 = .ok (.aload_n 1, 1) := by decide +kernel
theorem dL_law_323 : decode cL_law 323 = .ok (.iload 12, 2) := by decide +kernel
theorem dL_law_325 : decode cL_law 325 = .ok (.invokevirtual 93, 3) := by decide +kernel
theorem dL_law_328 : decode cL_law 328 = .ok (.aload 6, 2) := by decide +kernel
theorem dL_law_330 : decode cL_law 330 = .ok (.iload 12, 2) := by decide +kernel
theorem dL_law_332 : decode cL_law 332 = .ok (.iaload, 1) := by decide +kernel
theorem dL_law_333 : decode cL_law 333 = .ok (.ifCond .ne 8, 3) := by decide +kernel
theorem dL_law_336 : decode cL_law 336 = .ok (.iload 11, 2) := by decide +kernel
theorem dL_law_338 : decode cL_law 338 = .ok (.goto 4, 3) := by decide +kernel
theorem dL_law_341 : decode cL_law 341 = .ok (.iconst (-1), 1) := by decide +kernel
theorem dL_law_342 : decode cL_law 342 = .ok (.if_icmp .ne 57, 3) := by decide +kernel
theorem dL_law_345 : decode cL_law 345 = .ok (.aload 6, 2) := by decide +kernel
theorem dL_law_347 : decode cL_law 347 = .ok (.iload 12, 2) := by decide +kernel
theorem dL_law_349 : decode cL_law 349 = .ok (.iaload, 1) := by decide +kernel
theorem dL_law_350 : decode cL_law 350 = .ok (.ifCond .ne 12, 3) := by decide +kernel
theorem dL_law_353 : decode cL_law 353 = .ok (.aload 7, 2) := by decide +kernel
theorem dL_law_355 : decode cL_law 355 = .ok (.iload 12, 2) := by decide +kernel
theorem dL_law_357 : decode cL_law 357 = .ok (.iaload, 1) := by decide +kernel
theorem dL_law_358 : decode cL_law 358 = .ok (.iconst 1, 1) := by decide +kernel
theorem dL_law_359 : decode cL_law 359 = .ok (.if_icmp .lt 40, 3) := by decide +kernel
theorem dL_law_362 : decode cL_law 362 = .ok (.aload_n 1, 1) := by decide +kernel
theorem dL_law_363 : decode cL_law 363 = .ok (.iload 12, 2) := by decide +kernel
theorem dL_law_365 : decode cL_law 365 = .ok (.invokevirtual 96, 3) := by decide +kernel
theorem dL_law_368 : decode cL_law 368 = .ok (.ifCond .lt 31, 3) := by decide +kernel
theorem dL_law_371 : decode cL_law 371 = .ok (.aload_n 1, 1) := by decide +kernel
theorem dL_law_372 : decode cL_law 372 = .ok (.iload 12, 2) := by decide +kernel
theorem dL_law_374 : decode cL_law 374 = .ok (.invokevirtual 96, 3) := by decide +kernel
theorem dL_law_377 : decode cL_law 377 = .ok (.bipush 9, 2) := by decide +kernel
theorem dL_law_379 : decode cL_law 379 = .ok (.if_icmp .gt 20, 3) := by decide +kernel
theorem dL_law_382 : decode cL_law 382 = .ok (.aload_n 1, 1) := by decide +kernel
theorem dL_law_383 : decode cL_law 383 = .ok (.iload 12, 2) := by decide +kernel
theorem dL_law_385 : decode cL_law 385 = .ok (.invokevirtual 99, 3) := by decide +kernel
theorem dL_law_388 : decode cL_law 388 = .ok (.iconst 2, 1) := by decide +kernel
theorem dL_law_389 : decode cL_law 389 = .ok (.aload_n 1, 1) := by decide +kernel
theorem dL_law_390 : decode cL_law 390 = .ok (.invokevirtual 102, 3) := by decide +kernel
theorem dL_law_393 : decode cL_law 393 = .ok (.iconst 4, 1) := by decide +kernel
theorem dL_law_394 : decode cL_law 394 = .ok (.idiv, 1) := by decide +kernel
theorem dL_law_395 : decode cL_law 395 = .ok (.iadd, 1) := by decide +kernel
theorem dL_law_396 : decode cL_law 396 = .ok (.if_icmp .ge 5, 3) := by decide +kernel
theorem dL_law_399 : decode cL_law 399 = .ok (.iconst 0, 1) := by decide +kernel
theorem dL_law_400 : decode cL_law 400 = .ok (.ireturn, 1) := by decide +kernel
theorem dL_law_401 : decode cL_law 401 = .ok (.iload 11, 2) := by decide +kernel
theorem dL_law_403 : decode cL_law 403 = .ok (.aload 6, 2) := by decide +kernel
theorem dL_law_405 : decode cL_law 405 = .ok (.iload 12, 2) := by decide +kernel
theorem dL_law_407 : decode cL_law 407 = .ok (.iaload, 1) := by decide +kernel
theorem dL_law_408 : decode cL_law 408 = .ok (.ifCond .ne 7, 3) := by decide +kernel
theorem dL_law_411 : decode cL_law 411 = .ok (.iconst 1, 1) := by decide +kernel
theorem dL_law_412 : decode cL_law 412 = .ok (.goto 4, 3) := by decide +kernel
theorem dL_law_415 : decode cL_law 415 = .ok (.iconst 0, 1) := by decide +kernel
theorem dL_law_416 : decode cL_law 416 = .ok (.iadd, 1) := by decide +kernel
theorem dL_law_417 : decode cL_law 417 = .ok (.istore 11, 2) := by decide +kernel
theorem dL_law_419 : decode cL_law 419 = .ok (.iload 10, 2) := by decide +kernel
theorem dL_law_421 : decode cL_law 421 = .ok (.aload 6, 2) := by decide +kernel
theorem dL_law_423 : decode cL_law 423 = .ok (.iload 12, 2) := by decide +kernel
theorem dL_law_425 : decode cL_law 425 = .ok (.iaload, 1) := by decide +kernel
theorem dL_law_426 : decode cL_law 426 = .ok (.iconst 2, 1) := by decide +kernel
theorem dL_law_427 : decode cL_law 427 = .ok (.if_icmp .ne 15, 3) := by decide +kernel
theorem dL_law_430 : decode cL_law 430 = .ok (.aload_n 2, 1) := by decide +kernel
theorem dL_law_431 : decode cL_law 431 = .ok (.getfield 9, 3) := by decide +kernel
theorem dL_law_434 : decode cL_law 434 = .ok (.iload 12, 2) := by decide +kernel
theorem dL_law_436 : decode cL_law 436 = .ok (.aaload, 1) := by decide +kernel
theorem dL_law_437 : decode cL_law 437 = .ok (.iconst 2, 1) := by decide +kernel
theorem dL_law_438 : decode cL_law 438 = .ok (.iaload, 1) := by decide +kernel
theorem dL_law_439 : decode cL_law 439 = .ok (.goto 4, 3) := by decide +kernel
theorem dL_law_442 : decode cL_law 442 = .ok (.iconst 0, 1) := by decide +kernel
theorem dL_law_443 : decode cL_law 443 = .ok (.iadd, 1) := by decide +kernel
theorem dL_law_444 : decode cL_law 444 = .ok (.istore 10, 2) := by decide +kernel
theorem dL_law_446 : decode cL_law 446 = .ok (.iinc 12 1, 3) := by decide +kernel
theorem dL_law_449 : decode cL_law 449 = .ok (.goto (-233), 3) := by decide +kernel
theorem dL_law_452 : decode cL_law 452 = .ok (.aload 8, 2) := by decide +kernel
theorem dL_law_454 : decode cL_law 454 = .ok (.iconst 0, 1) := by decide +kernel
theorem dL_law_455 : decode cL_law 455 = .ok (.iaload, 1) := by decide +kernel
theorem dL_law_456 : decode cL_law 456 = .ok (.aload_n 1, 1) := by decide +kernel
theorem dL_law_457 : decode cL_law 457 = .ok (.invokevirtual 105, 3) := by decide +kernel
theorem dL_law_460 : decode cL_law 460 = .ok (.if_icmp .ne 72, 3) := by decide +kernel
theorem dL_law_463 : decode cL_law 463 = .ok (.aload 8, 2) := by decide +kernel
theorem dL_law_465 : decode cL_law 465 = .ok (.iconst 3, 1) := by decide +kernel
theorem dL_law_466 : decode cL_law 466 = .ok (.iaload, 1) := by decide +kernel
theorem dL_law_467 : decode cL_law 467 = .ok (.aload_n 1, 1) := by decide +kernel
theorem dL_law_468 : decode cL_law 468 = .ok (.invokevirtual 108, 3) := by decide +kernel
theorem dL_law_471 : decode cL_law 471 = .ok (.if_icmp .ne 61, 3) := by decide +kernel
theorem dL_law_474 : decode cL_law 474 = .ok (.aload 8, 2) := by decide +kernel
theorem dL_law_476 : decode cL_law 476 = .ok (.iconst 4, 1) := by decide +kernel
theorem dL_law_477 : decode cL_law 477 = .ok (.iaload, 1) := by decide +kernel
theorem dL_law_478 : decode cL_law 478 = .ok (.aload_n 1, 1) := by decide +kernel
theorem dL_law_479 : decode cL_law 479 = .ok (.invokevirtual 111, 3) := by decide +kernel
theorem dL_law_482 : decode cL_law 482 = .ok (.if_icmp .ne 50, 3) := by decide +kernel
theorem dL_law_485 : decode cL_law 485 = .ok (.aload_n 1, 1) := by decide +kernel
theorem dL_law_486 : decode cL_law 486 = .ok (.invokevirtual 114, 3) := by decide +kernel
theorem dL_law_489 : decode cL_law 489 = .ok (.aload 8, 2) := by decide +kernel
theorem dL_law_491 : decode cL_law 491 = .ok (.iconst 4, 1) := by decide +kernel
theorem dL_law_492 : decode cL_law 492 = .ok (.iaload, 1) := by decide +kernel
theorem dL_law_493 : decode cL_law 493 = .ok (.if_icmp .gt 39, 3) := by decide +kernel
theorem dL_law_496 : decode cL_law 496 = .ok (.iload 10, 2) := by decide +kernel
theorem dL_law_498 : decode cL_law 498 = .ok (.aload_n 1, 1) := by decide +kernel
theorem dL_law_499 : decode cL_law 499 = .ok (.invokevirtual 102, 3) := by decide +kernel
theorem dL_law_502 : decode cL_law 502 = .ok (.if_icmp .ne 30, 3) := by decide +kernel
theorem dL_law_505 : decode cL_law 505 = .ok (.aload_n 1, 1) := by decide +kernel
theorem dL_law_506 : decode cL_law 506 = .ok (.invokevirtual 90, 3) := by decide +kernel
theorem dL_law_509 : decode cL_law 509 = .ok (.ifCond .ge 7, 3) := by decide +kernel
theorem dL_law_512 : decode cL_law 512 = .ok (.iconst 1, 1) := by decide +kernel
theorem dL_law_513 : decode cL_law 513 = .ok (.goto 4, 3) := by decide +kernel
theorem dL_law_516 : decode cL_law 516 = .ok (.iconst 0, 1) := by decide +kernel
theorem dL_law_517 : decode cL_law 517 = .ok (.aload 8, 2) := by decide +kernel
theorem dL_law_519 : decode cL_law 519 = .ok (.iconst 0, 1) := by decide +kernel
theorem dL_law_520 : decode cL_law 520 = .ok (.iaload, 1) := by decide +kernel
theorem dL_law_521 : decode cL_law 521 = .ok (.ifCond .ne 7, 3) := by decide +kernel
theorem dL_law_524 : decode cL_law 524 = .ok (.iconst 1, 1) := by decide +kernel
theorem dL_law_525 : decode cL_law 525 = .ok (.goto 4, 3) := by decide +kernel
theorem dL_law_528 : decode cL_law 528 = .ok (.iconst 0, 1) := by decide +kernel
theorem dL_law_529 : decode cL_law 529 = .ok (.if_icmp .eq 5, 3) := by decide +kernel
theorem dL_law_532 : decode cL_law 532 = .ok (.iconst 0, 1) := by decide +kernel
theorem dL_law_533 : decode cL_law 533 = .ok (.ireturn, 1) := by decide +kernel
theorem dL_law_534 : decode cL_law 534 = .ok (.aload_n 1, 1) := by decide +kernel
theorem dL_law_535 : decode cL_law 535 = .ok (.invokevirtual 114, 3) := by decide +kernel
theorem dL_law_538 : decode cL_law 538 = .ok (.istore 12, 2) := by decide +kernel
theorem dL_law_540 : decode cL_law 540 = .ok (.aload_n 1, 1) := by decide +kernel
theorem dL_law_541 : decode cL_law 541 = .ok (.invokevirtual 117, 3) := by decide +kernel
theorem dL_law_544 : decode cL_law 544 = .ok (.istore 13, 2) := by decide +kernel
theorem dL_law_546 : decode cL_law 546 = .ok (.aload_n 1, 1) := by decide +kernel
theorem dL_law_547 : decode cL_law 547 = .ok (.invokevirtual 120, 3) := by decide +kernel
theorem dL_law_550 : decode cL_law 550 = .ok (.istore 14, 2) := by decide +kernel
theorem dL_law_552 : decode cL_law 552 = .ok (.aload_n 1, 1) := by decide +kernel
theorem dL_law_553 : decode cL_law 553 = .ok (.iconst 1, 1) := by decide +kernel
theorem dL_law_554 : decode cL_law 554 = .ok (.invokevirtual 48, 3) := by decide +kernel
theorem dL_law_557 : decode cL_law 557 = .ok (.istore 15, 2) := by decide +kernel
theorem dL_law_559 : decode cL_law 559 = .ok (.aload_n 2, 1) := by decide +kernel
theorem dL_law_560 : decode cL_law 560 = .ok (.invokevirtual 123, 3) := by decide +kernel
theorem dL_law_563 : decode cL_law 563 = .ok (.iconst 0, 1) := by decide +kernel
theorem dL_law_564 : decode cL_law 564 = .ok (.istore 16, 2) := by decide +kernel
theorem dL_law_566 : decode cL_law 566 = .ok (.iconst 0, 1) := by decide +kernel
theorem dL_law_567 : decode cL_law 567 = .ok (.istore 17, 2) := by decide +kernel
theorem dL_law_569 : decode cL_law 569 = .ok (.iconst 0, 1) := by decide +kernel
theorem dL_law_570 : decode cL_law 570 = .ok (.istore 18, 2) := by decide +kernel
theorem dL_law_572 : decode cL_law 572 = .ok (.iconst 0, 1) := by decide +kernel
theorem dL_law_573 : decode cL_law 573 = .ok (.istore 19, 2) := by decide +kernel
theorem dL_law_575 : decode cL_law 575 = .ok (.iload 19, 2) := by decide +kernel
theorem dL_law_577 : decode cL_law 577 = .ok (.iload 5, 2) := by decide +kernel
theorem dL_law_579 : decode cL_law 579 = .ok (.if_icmp .ge 275, 3) := by decide +kernel
theorem dL_law_582 : decode cL_law 582 = .ok (.aload_n 1, 1) := by decide +kernel
theorem dL_law_583 : decode cL_law 583 = .ok (.iload 19, 2) := by decide +kernel
theorem dL_law_585 : decode cL_law 585 = .ok (.invokevirtual 84, 3) := by decide +kernel
theorem dL_law_588 : decode cL_law 588 = .ok (.istore 20, 2) := by decide +kernel
theorem dL_law_590 : decode cL_law 590 = .ok (.iload 20, 2) := by decide +kernel
theorem dL_law_592 : decode cL_law 592 = .ok (.aload 6, 2) := by decide +kernel
theorem dL_law_594 : decode cL_law 594 = .ok (.iload 19, 2) := by decide +kernel
theorem dL_law_596 : decode cL_law 596 = .ok (.iaload, 1) := by decide +kernel
theorem dL_law_597 : decode cL_law 597 = .ok (.if_icmp .eq 59, 3) := by decide +kernel
theorem dL_law_600 : decode cL_law 600 = .ok (.aload 6, 2) := by decide +kernel
theorem dL_law_602 : decode cL_law 602 = .ok (.iload 19, 2) := by decide +kernel
theorem dL_law_604 : decode cL_law 604 = .ok (.iaload, 1) := by decide +kernel
theorem dL_law_605 : decode cL_law 605 = .ok (.ifCond .ne 15, 3) := by decide +kernel
theorem dL_law_608 : decode cL_law 608 = .ok (.iload 20, 2) := by decide +kernel
theorem dL_law_610 : decode cL_law 610 = .ok (.iconst 1, 1) := by decide +kernel
theorem dL_law_611 : decode cL_law 611 = .ok (.if_icmp .eq 45, 3) := by decide +kernel
theorem dL_law_614 : decode cL_law 614 = .ok (.iload 20, 2) := by decide +kernel
theorem dL_law_616 : decode cL_law 616 = .ok (.iconst 4, 1) := by decide +kernel
theorem dL_law_617 : decode cL_law 617 = .ok (.if_icmp .eq 39, 3) := by decide +kernel
theorem dL_law_620 : decode cL_law 620 = .ok (.aload 6, 2) := by decide +kernel
theorem dL_law_622 : decode cL_law 622 = .ok (.iload 19, 2) := by decide +kernel
theorem dL_law_624 : decode cL_law 624 = .ok (.iaload, 1) := by decide +kernel
theorem dL_law_625 : decode cL_law 625 = .ok (.iconst 1, 1) := by decide +kernel
theorem dL_law_626 : decode cL_law 626 = .ok (.if_icmp .ne 15, 3) := by decide +kernel
theorem dL_law_629 : decode cL_law 629 = .ok (.iload 20, 2) := by decide +kernel
theorem dL_law_631 : decode cL_law 631 = .ok (.iconst 2, 1) := by decide +kernel
theorem dL_law_632 : decode cL_law 632 = .ok (.if_icmp .eq 24, 3) := by decide +kernel
theorem dL_law_635 : decode cL_law 635 = .ok (.iload 20, 2) := by decide +kernel
theorem dL_law_637 : decode cL_law 637 = .ok (.iconst 4, 1) := by decide +kernel
theorem dL_law_638 : decode cL_law 638 = .ok (.if_icmp .eq 18, 3) := by decide +kernel
theorem dL_law_641 : decode cL_law 641 = .ok (.aload 6, 2) := by decide +kernel
theorem dL_law_643 : decode cL_law 643 = .ok (.iload 19, 2) := by decide +kernel
theorem dL_law_645 : decode cL_law 645 = .ok (.iaload, 1) := by decide +kernel
theorem dL_law_646 : decode cL_law 646 = .ok (.iconst 2, 1) := by decide +kernel
theorem dL_law_647 : decode cL_law 647 = .ok (.if_icmp .ne 13, 3) := by decide +kernel
theorem dL_law_650 : decode cL_law 650 = .ok (.iload 20, 2) := by decide +kernel
theorem dL_law_652 : decode cL_law 652 = .ok (.iconst 3, 1) := by decide +kernel
theorem dL_law_653 : decode cL_law 653 = .ok (.if_icmp .ne 7, 3) := by decide +kernel
theorem dL_law_656 : decode cL_law 656 = .ok (.iconst 1, 1) := by decide +kernel
theorem dL_law_657 : decode cL_law 657 = .ok (.goto 4, 3) := by decide +kernel
theorem dL_law_660 : decode cL_law 660 = .ok (.iconst 0, 1) := by decide +kernel
theorem dL_law_661 : decode cL_law 661 = .ok (.istore 21, 2) := by decide +kernel
theorem dL_law_663 : decode cL_law 663 = .ok (.iload 21, 2) := by decide +kernel
theorem dL_law_665 : decode cL_law 665 = .ok (.ifCond .eq 35, 3) := by decide +kernel
theorem dL_law_668 : decode cL_law 668 = .ok (.aload_n 1, 1) := by decide +kernel
theorem dL_law_669 : decode cL_law 669 = .ok (.iload 19, 2) := by decide +kernel
theorem dL_law_671 : decode cL_law 671 = .ok (.invokevirtual 87, 3) := by decide +kernel
theorem dL_law_674 : decode cL_law 674 = .ok (.aload 6, 2) := by decide +kernel
theorem dL_law_676 : decode cL_law 676 = .ok (.iload 19, 2) := by decide +kernel
theorem dL_law_678 : decode cL_law 678 = .ok (.iaload, 1) := by decide +kernel
theorem dL_law_679 : decode cL_law 679 = .ok (.ifCond .ne 13, 3) := by decide +kernel
theorem dL_law_682 : decode cL_law 682 = .ok (.aload 7, 2) := by decide +kernel
theorem dL_law_684 : decode cL_law 684 = .ok (.iload 19, 2) := by decide +kernel
theorem dL_law_686 : decode cL_law 686 = .ok (.iaload, 1) := by decide +kernel
theorem dL_law_687 : decode cL_law 687 = .ok (.iconst 1, 1) := by decide +kernel
theorem dL_law_688 : decode cL_law 688 = .ok (.isub, 1) := by decide +kernel
theorem dL_law_689 : decode cL_law 689 = .ok (.goto 8, 3) := by decide +kernel
theorem dL_law_692 : decode cL_law 692 = .ok (.aload 7, 2) := by decide +kernel
theorem dL_law_694 : decode cL_law 694 = .ok (.iload 19, 2) := by decide +kernel
theorem dL_law_696 : decode cL_law 696 = .ok (.iaload, 1) := by decide +kernel
theorem dL_law_697 : decode cL_law 697 = .ok (.if_icmp .eq 5, 3) := by decide +kernel
theorem dL_law_700 : decode cL_law 700 = .ok (.iconst 0, 1) := by decide +kernel
theorem dL_law_701 : decode cL_law 701 = .ok (.ireturn, 1) := by decide +kernel
theorem dL_law_702 : decode cL_law 702 = .ok (.iload 16, 2) := by decide +kernel
theorem dL_law_704 : decode cL_law 704 = .ok (.aload 6, 2) := by decide +kernel
theorem dL_law_706 : decode cL_law 706 = .ok (.iload 19, 2) := by decide +kernel
theorem dL_law_708 : decode cL_law 708 = .ok (.iaload, 1) := by decide +kernel
theorem dL_law_709 : decode cL_law 709 = .ok (.iconst 2, 1) := by decide +kernel
theorem dL_law_710 : decode cL_law 710 = .ok (.if_icmp .ne 13, 3) := by decide +kernel
theorem dL_law_713 : decode cL_law 713 = .ok (.iload 20, 2) := by decide +kernel
theorem dL_law_715 : decode cL_law 715 = .ok (.iconst 3, 1) := by decide +kernel
theorem dL_law_716 : decode cL_law 716 = .ok (.if_icmp .ne 7, 3) := by decide +kernel
theorem dL_law_719 : decode cL_law 719 = .ok (.iconst 1, 1) := by decide +kernel
theorem dL_law_720 : decode cL_law 720 = .ok (.goto 4, 3) := by decide +kernel
theorem dL_law_723 : decode cL_law 723 = .ok (.iconst 0, 1) := by decide +kernel
theorem dL_law_724 : decode cL_law 724 = .ok (.iadd, 1) := by decide +kernel
theorem dL_law_725 : decode cL_law 725 = .ok (.istore 16, 2) := by decide +kernel
theorem dL_law_727 : decode cL_law 727 = .ok (.iload 17, 2) := by decide +kernel
theorem dL_law_729 : decode cL_law 729 = .ok (.aload 6, 2) := by decide +kernel
theorem dL_law_731 : decode cL_law 731 = .ok (.iload 19, 2) := by decide +kernel
theorem dL_law_733 : decode cL_law 733 = .ok (.iaload, 1) := by decide +kernel
theorem dL_law_734 : decode cL_law 734 = .ok (.ifCond .ne 13, 3) := by decide +kernel
theorem dL_law_737 : decode cL_law 737 = .ok (.iload 20, 2) := by decide +kernel
theorem dL_law_739 : decode cL_law 739 = .ok (.iconst 4, 1) := by decide +kernel
theorem dL_law_740 : decode cL_law 740 = .ok (.if_icmp .ne 7, 3) := by decide +kernel
theorem dL_law_743 : decode cL_law 743 = .ok (.iconst 1, 1) := by decide +kernel
theorem dL_law_744 : decode cL_law 744 = .ok (.goto 4, 3) := by decide +kernel
theorem dL_law_747 : decode cL_law 747 = .ok (.iconst 0, 1) := by decide +kernel
theorem dL_law_748 : decode cL_law 748 = .ok (.iadd, 1) := by decide +kernel
theorem dL_law_749 : decode cL_law 749 = .ok (.istore 17, 2) := by decide +kernel
theorem dL_law_751 : decode cL_law 751 = .ok (.iload 18, 2) := by decide +kernel
theorem dL_law_753 : decode cL_law 753 = .ok (.aload 6, 2) := by decide +kernel
theorem dL_law_755 : decode cL_law 755 = .ok (.iload 19, 2) := by decide +kernel
theorem dL_law_757 : decode cL_law 757 = .ok (.iaload, 1) := by decide +kernel
theorem dL_law_758 : decode cL_law 758 = .ok (.iconst 1, 1) := by decide +kernel
theorem dL_law_759 : decode cL_law 759 = .ok (.if_icmp .ne 20, 3) := by decide +kernel
theorem dL_law_762 : decode cL_law 762 = .ok (.iload 20, 2) := by decide +kernel
theorem dL_law_764 : decode cL_law 764 = .ok (.iconst 4, 1) := by decide +kernel
theorem dL_law_765 : decode cL_law 765 = .ok (.if_icmp .ne 14, 3) := by decide +kernel
theorem dL_law_768 : decode cL_law 768 = .ok (.iconst 3, 1) := by decide +kernel
theorem dL_law_769 : decode cL_law 769 = .ok (.aload_n 1, 1) := by decide +kernel
theorem dL_law_770 : decode cL_law 770 = .ok (.iload 19, 2) := by decide +kernel
theorem dL_law_772 : decode cL_law 772 = .ok (.invokevirtual 96, 3) := by decide +kernel
theorem dL_law_775 : decode cL_law 775 = .ok (.imul, 1) := by decide +kernel
theorem dL_law_776 : decode cL_law 776 = .ok (.goto 4, 3) := by decide +kernel
theorem dL_law_779 : decode cL_law 779 = .ok (.iconst 0, 1) := by decide +kernel
theorem dL_law_780 : decode cL_law 780 = .ok (.iadd, 1) := by decide +kernel
theorem dL_law_781 : decode cL_law 781 = .ok (.istore 18, 2) := by decide +kernel
theorem dL_law_783 : decode cL_law 783 = .ok (.aload 6, 2) := by decide +kernel
theorem dL_law_785 : decode cL_law 785 = .ok (.iload 19, 2) := by decide +kernel
theorem dL_law_787 : decode cL_law 787 = .ok (.iaload, 1) := by decide +kernel
theorem dL_law_788 : decode cL_law 788 = .ok (.ifCond .ne 33, 3) := by decide +kernel
theorem dL_law_791 : decode cL_law 791 = .ok (.iload 20, 2) := by decide +kernel
theorem dL_law_793 : decode cL_law 793 = .ok (.iconst 4, 1) := by decide +kernel
theorem dL_law_794 : decode cL_law 794 = .ok (.if_icmp .ne 7, 3) := by decide +kernel
theorem dL_law_797 : decode cL_law 797 = .ok (.iconst 1, 1) := by decide +kernel
theorem dL_law_798 : decode cL_law 798 = .ok (.goto 4, 3) := by decide +kernel
theorem dL_law_801 : decode cL_law 801 = .ok (.iconst 0, 1) := by decide +kernel
theorem dL_law_802 : decode cL_law 802 = .ok (.aload 7, 2) := by decide +kernel
theorem dL_law_804 : decode cL_law 804 = .ok (.iload 19, 2) := by decide +kernel
theorem dL_law_806 : decode cL_law 806 = .ok (.iaload, 1) := by decide +kernel
theorem dL_law_807 : decode cL_law 807 = .ok (.iconst 1, 1) := by decide +kernel
theorem dL_law_808 : decode cL_law 808 = .ok (.if_icmp .ne 7, 3) := by decide +kernel
theorem dL_law_811 : decode cL_law 811 = .ok (.iconst 1, 1) := by decide +kernel
theorem dL_law_812 : decode cL_law 812 = .ok (.goto 4, 3) := by decide +kernel
theorem dL_law_815 : decode cL_law 815 = .ok (.iconst 0, 1) := by decide +kernel
theorem dL_law_816 : decode cL_law 816 = .ok (.if_icmp .eq 5, 3) := by decide +kernel
theorem dL_law_819 : decode cL_law 819 = .ok (.iconst 0, 1) := by decide +kernel
theorem dL_law_820 : decode cL_law 820 = .ok (.ireturn, 1) := by decide +kernel
theorem dL_law_821 : decode cL_law 821 = .ok (.aload 6, 2) := by decide +kernel
theorem dL_law_823 : decode cL_law 823 = .ok (.iload 19, 2) := by decide +kernel
theorem dL_law_825 : decode cL_law 825 = .ok (.iaload, 1) := by decide +kernel
theorem dL_law_826 : decode cL_law 826 = .ok (.iconst 1, 1) := by decide +kernel
theorem dL_law_827 : decode cL_law 827 = .ok (.if_icmp .ne 21, 3) := by decide +kernel
theorem dL_law_830 : decode cL_law 830 = .ok (.iload 20, 2) := by decide +kernel
theorem dL_law_832 : decode cL_law 832 = .ok (.iconst 4, 1) := by decide +kernel
theorem dL_law_833 : decode cL_law 833 = .ok (.if_icmp .ne 15, 3) := by decide +kernel
theorem dL_law_836 : decode cL_law 836 = .ok (.aload_n 1, 1) := by decide +kernel
theorem dL_law_837 : decode cL_law 837 = .ok (.iload 19, 2) := by decide +kernel
theorem dL_law_839 : decode cL_law 839 = .ok (.invokevirtual 96, 3) := by decide +kernel
theorem dL_law_842 : decode cL_law 842 = .ok (.iconst 1, 1) := by decide +kernel
theorem dL_law_843 : decode cL_law 843 = .ok (.if_icmp .ge 5, 3) := by decide +kernel
theorem dL_law_846 : decode cL_law 846 = .ok (.iconst 0, 1) := by decide +kernel
theorem dL_law_847 : decode cL_law 847 = .ok (.ireturn, 1) := by decide +kernel
theorem dL_law_848 : decode cL_law 848 = .ok (.iinc 19 1, 3) := by decide +kernel
theorem dL_law_851 : decode cL_law 851 = .ok (.goto (-276), 3) := by decide +kernel
theorem dL_law_854 : decode cL_law 854 = .ok (.iload 15, 2) := by decide +kernel
theorem dL_law_856 : decode cL_law 856 = .ok (.iload 16, 2) := by decide +kernel
theorem dL_law_858 : decode cL_law 858 = .ok (.if_icmp .ne 38, 3) := by decide +kernel
theorem dL_law_861 : decode cL_law 861 = .ok (.aload_n 1, 1) := by decide +kernel
theorem dL_law_862 : decode cL_law 862 = .ok (.invokevirtual 114, 3) := by decide +kernel
theorem dL_law_865 : decode cL_law 865 = .ok (.iload 12, 2) := by decide +kernel
theorem dL_law_867 : decode cL_law 867 = .ok (.iload 17, 2) := by decide +kernel
theorem dL_law_869 : decode cL_law 869 = .ok (.iadd, 1) := by decide +kernel
theorem dL_law_870 : decode cL_law 870 = .ok (.if_icmp .ne 26, 3) := by decide +kernel
theorem dL_law_873 : decode cL_law 873 = .ok (.aload_n 1, 1) := by decide +kernel
theorem dL_law_874 : decode cL_law 874 = .ok (.invokevirtual 117, 3) := by decide +kernel
theorem dL_law_877 : decode cL_law 877 = .ok (.iload 13, 2) := by decide +kernel
theorem dL_law_879 : decode cL_law 879 = .ok (.iload 18, 2) := by decide +kernel
theorem dL_law_881 : decode cL_law 881 = .ok (.iadd, 1) := by decide +kernel
theorem dL_law_882 : decode cL_law 882 = .ok (.if_icmp .ne 14, 3) := by decide +kernel
theorem dL_law_885 : decode cL_law 885 = .ok (.aload_n 1, 1) := by decide +kernel
theorem dL_law_886 : decode cL_law 886 = .ok (.invokevirtual 120, 3) := by decide +kernel
theorem dL_law_889 : decode cL_law 889 = .ok (.iload 14, 2) := by decide +kernel
theorem dL_law_891 : decode cL_law 891 = .ok (.iconst 1, 1) := by decide +kernel
theorem dL_law_892 : decode cL_law 892 = .ok (.iadd, 1) := by decide +kernel
theorem dL_law_893 : decode cL_law 893 = .ok (.if_icmp .eq 5, 3) := by decide +kernel
theorem dL_law_896 : decode cL_law 896 = .ok (.iconst 0, 1) := by decide +kernel
theorem dL_law_897 : decode cL_law 897 = .ok (.ireturn, 1) := by decide +kernel
theorem dL_law_898 : decode cL_law 898 = .ok (.iinc 3 1, 3) := by decide +kernel
theorem dL_law_901 : decode cL_law 901 = .ok (.goto (-879), 3) := by decide +kernel
theorem dL_law_904 : decode cL_law 904 = .ok (.aload_n 2, 1) := by decide +kernel
theorem dL_law_905 : decode cL_law 905 = .ok (.aload_n 1, 1) := by decide +kernel
theorem dL_law_906 : decode cL_law 906 = .ok (.invokevirtual 125, 3) := by decide +kernel
theorem dL_law_909 : decode cL_law 909 = .ok (.ireturn, 1) := by decide +kernel
