set_option maxRecDepth 20000 in
theorem ggL_addGuard_X1_addGuard : GoodIn wsL_addGuard wsX1_addGuard := goodIn_ca (goodIn_r _ [6, 7, 8, 9, 10, 11, 12, 13, 14, 15, 16, 17, 18, 19, 20, 21, 22, 23, 24, 25, 26, 27, 28, 29, 30, 31, 32, 33, 34, 35, 36] (by decide +kernel) (by decide +kernel)) (goodIn_sub (fun _ h => List.mem_cons_of_mem _ (List.mem_append_right _ h)) (by decide +kernel))
set_option maxRecDepth 20000 in
theorem gL_addGuard_X1_addGuard : GoodIn wsL_addGuard (wsV RL 7 RX1 yX1_addGuard wsX1_addGuard) := goodIn_app (goodIn_of _ (by decide +kernel)) ggL_addGuard_X1_addGuard
theorem dL_addGuard_0 : decode cL_addGuard 0 = .ok (.aload_n 1, 1) := by decide +kernel
theorem dL_addGuard_1 : decode cL_addGuard 1 = .ok (.iconst 0, 1) := by decide +kernel
theorem dL_addGuard_2 : decode cL_addGuard 2 = .ok (.aload_n 0, 1) := by decide +kernel
theorem dL_addGuard_3 : decode cL_addGuard 3 = .ok (.invokevirtual 7, 3) := by decide +kernel
theorem dL_addGuard_6 : decode cL_addGuard 6 = .ok (.i2l, 1) := by decide +kernel
theorem dL_addGuard_7 : decode cL_addGuard 7 = .ok (.lastore, 1) := by decide +kernel
theorem dL_addGuard_8 : decode cL_addGuard 8 = .ok (.goto 6, 3) := by decide +kernel
theorem dL_addGuard_11 : decode cL_addGuard 11 = .ok (.astore_n 2, 1) := by decide +kernel
theorem dL_addGuard_12 : decode cL_addGuard 12 = .ok (.iconst 1, 1) := by decide +kernel
theorem dL_addGuard_13 : decode cL_addGuard 13 = .ok (.ireturn, 1) := by decide +kernel
theorem dL_addGuard_14 : decode cL_addGuard 14 = .ok (.iconst 0, 1) := by decide +kernel
theorem dL_addGuard_15 : decode cL_addGuard 15 = .ok (.ireturn, 1) := by decide +kernel
set_option maxRecDepth 20000 in
theorem ggL_arrive_X1_arrive : GoodIn wsL_arrive wsX1_arrive := goodIn_ca (goodIn_ca (goodIn_r _ [7, 8, 9, 10, 11, 12, 13, 6, 14, 15, 16, 17, 18, 19, 20, 21, 22, 23, 24, 25, 26, 27, 28, 29, 30, 31, 32, 33, 34, 35, 36, 37, 38, 39, 40, 41, 42, 43, 44, 45, 46, 47] (by decide +kernel) (by decide +kernel)) (goodIn_sub (fun _ h => List.mem_cons_of_mem _ (List.mem_append_left _ (List.mem_append_right _ h))) (by decide +kernel))) (goodIn_sub (fun _ h => List.mem_cons_of_mem _ (List.mem_append_right _ h)) (by decide +kernel))
set_option maxRecDepth 20000 in
theorem gL_arrive_X1_arrive : GoodIn wsL_arrive (wsV RL 15 RX1 yX1_arrive wsX1_arrive) := goodIn_app (goodIn_of _ (by decide +kernel)) ggL_arrive_X1_arrive
theorem dL_arrive_0 : decode cL_arrive 0 = .ok (.aload 5, 2) := by decide +kernel
theorem dL_arrive_2 : decode cL_arrive 2 = .ok (.iconst 0, 1) := by decide +kernel
theorem dL_arrive_3 : decode cL_arrive 3 = .ok (.aload_n 0, 1) := by decide +kernel
theorem dL_arrive_4 : decode cL_arrive 4 = .ok (.iload_n 1, 1) := by decide +kernel
theorem dL_arrive_5 : decode cL_arrive 5 = .ok (.iload_n 2, 1) := by decide +kernel
theorem dL_arrive_6 : decode cL_arrive 6 = .ok (.iload_n 3, 1) := by decide +kernel
theorem dL_arrive_7 : decode cL_arrive 7 = .ok (.iload 4, 2) := by decide +kernel
theorem dL_arrive_9 : decode cL_arrive 9 = .ok (.invokevirtual 15, 3) := by decide +kernel
theorem dL_arrive_12 : decode cL_arrive 12 = .ok (.i2l, 1) := by decide +kernel
theorem dL_arrive_13 : decode cL_arrive 13 = .ok (.lastore, 1) := by decide +kernel
theorem dL_arrive_14 : decode cL_arrive 14 = .ok (.goto 11, 3) := by decide +kernel
theorem dL_arrive_17 : decode cL_arrive 17 = .ok (.astore 6, 2) := by decide +kernel
theorem dL_arrive_19 : decode cL_arrive 19 = .ok (.iconst 1, 1) := by decide +kernel
theorem dL_arrive_20 : decode cL_arrive 20 = .ok (.ireturn, 1) := by decide +kernel
theorem dL_arrive_21 : decode cL_arrive 21 = .ok (.astore 6, 2) := by decide +kernel
theorem dL_arrive_23 : decode cL_arrive 23 = .ok (.iconst 2, 1) := by decide +kernel
theorem dL_arrive_24 : decode cL_arrive 24 = .ok (.ireturn, 1) := by decide +kernel
theorem dL_arrive_25 : decode cL_arrive 25 = .ok (.iconst 0, 1) := by decide +kernel
theorem dL_arrive_26 : decode cL_arrive 26 = .ok (.ireturn, 1) := by decide +kernel
set_option maxRecDepth 20000 in
theorem ggL_declare_X1_declare : GoodIn wsL_declare wsX1_declare := goodIn_ca (goodIn_ca (goodIn_ca (goodIn_r _ [8, 9, 10, 11, 12, 13, 7, 14, 15, 16, 17, 18, 19, 20, 21, 22, 23, 24, 25, 26, 27, 28, 29, 30, 31, 32, 33, 34, 35, 36, 37, 38, 39, 40, 41, 42, 43, 44, 45, 46, 47, 48, 49, 50, 51] (by decide +kernel) (by decide +kernel)) (goodIn_sub (fun _ h => List.mem_cons_of_mem _ (List.mem_append_left _ (List.mem_append_left _ (List.mem_append_right _ h)))) (by decide +kernel))) (goodIn_sub (fun _ h => List.mem_cons_of_mem _ (List.mem_append_left _ (List.mem_append_right _ h))) (by decide +kernel))) (goodIn_sub (fun _ h => List.mem_cons_of_mem _ (List.mem_append_right _ h)) (by decide +kernel))
set_option maxRecDepth 20000 in
theorem gL_declare_X1_declare : GoodIn wsL_declare (wsV RL 21 RX1 yX1_declare wsX1_declare) := goodIn_app (goodIn_of _ (by decide +kernel)) ggL_declare_X1_declare
theorem dL_declare_0 : decode cL_declare 0 = .ok (.aload_n 3, 1) := by decide +kernel
theorem dL_declare_1 : decode cL_declare 1 = .ok (.iconst 0, 1) := by decide +kernel
theorem dL_declare_2 : decode cL_declare 2 = .ok (.aload_n 0, 1) := by decide +kernel
theorem dL_declare_3 : decode cL_declare 3 = .ok (.iload_n 1, 1) := by decide +kernel
theorem dL_declare_4 : decode cL_declare 4 = .ok (.iload_n 2, 1) := by decide +kernel
theorem dL_declare_5 : decode cL_declare 5 = .ok (.invokevirtual 21, 3) := by decide +kernel
theorem dL_declare_8 : decode cL_declare 8 = .ok (.i2l, 1) := by decide +kernel
theorem dL_declare_9 : decode cL_declare 9 = .ok (.lastore, 1) := by decide +kernel
theorem dL_declare_10 : decode cL_declare 10 = .ok (.goto 15, 3) := by decide +kernel
theorem dL_declare_13 : decode cL_declare 13 = .ok (.astore 4, 2) := by decide +kernel
theorem dL_declare_15 : decode cL_declare 15 = .ok (.iconst 1, 1) := by decide +kernel
theorem dL_declare_16 : decode cL_declare 16 = .ok (.ireturn, 1) := by decide +kernel
theorem dL_declare_17 : decode cL_declare 17 = .ok (.astore 4, 2) := by decide +kernel
theorem dL_declare_19 : decode cL_declare 19 = .ok (.iconst 2, 1) := by decide +kernel
theorem dL_declare_20 : decode cL_declare 20 = .ok (.ireturn, 1) := by decide +kernel
theorem dL_declare_21 : decode cL_declare 21 = .ok (.astore 4, 2) := by decide +kernel
theorem dL_declare_23 : decode cL_declare 23 = .ok (.iconst 3, 1) := by decide +kernel
theorem dL_declare_24 : decode cL_declare 24 = .ok (.ireturn, 1) := by decide +kernel
theorem dL_declare_25 : decode cL_declare 25 = .ok (.iconst 0, 1) := by decide +kernel
theorem dL_declare_26 : decode cL_declare 26 = .ok (.ireturn, 1) := by decide +kernel
set_option maxRecDepth 20000 in
theorem ggL_sing_X1_sing : GoodIn wsL_sing wsX1_sing := goodIn_ca (goodIn_ca (goodIn_ca (goodIn_r _ [8, 9, 10, 11, 12, 13, 7, 14, 15, 16, 17, 18, 19, 20, 21, 22, 23, 24, 25, 26, 27, 28, 29, 30, 31, 32, 33, 34, 35, 36, 37, 38, 39, 40, 41, 42, 43, 44, 45, 46, 47, 48, 49, 50, 51] (by decide +kernel) (by decide +kernel)) (goodIn_sub (fun _ h => List.mem_cons_of_mem _ (List.mem_append_left _ (List.mem_append_left _ (List.mem_append_right _ h)))) (by decide +kernel))) (goodIn_sub (fun _ h => List.mem_cons_of_mem _ (List.mem_append_left _ (List.mem_append_right _ h))) (by decide +kernel))) (goodIn_sub (fun _ h => List.mem_cons_of_mem _ (List.mem_append_right _ h)) (by decide +kernel))
set_option maxRecDepth 20000 in
theorem gL_sing_X1_sing : GoodIn wsL_sing (wsV RL 27 RX1 yX1_sing wsX1_sing) := goodIn_app (goodIn_of _ (by decide +kernel)) ggL_sing_X1_sing
theorem dL_sing_0 : decode cL_sing 0 = .ok (.aload_n 3, 1) := by decide +kernel
theorem dL_sing_1 : decode cL_sing 1 = .ok (.iconst 0, 1) := by decide +kernel
theorem dL_sing_2 : decode cL_sing 2 = .ok (.aload_n 0, 1) := by decide +kernel
theorem dL_sing_3 : decode cL_sing 3 = .ok (.iload_n 1, 1) := by decide +kernel
theorem dL_sing_4 : decode cL_sing 4 = .ok (.iload_n 2, 1) := by decide +kernel
theorem dL_sing_5 : decode cL_sing 5 = .ok (.invokevirtual 27, 3) := by decide +kernel
theorem dL_sing_8 : decode cL_sing 8 = .ok (.i2l, 1) := by decide +kernel
theorem dL_sing_9 : decode cL_sing 9 = .ok (.lastore, 1) := by decide +kernel
theorem dL_sing_10 : decode cL_sing 10 = .ok (.goto 15, 3) := by decide +kernel
theorem dL_sing_13 : decode cL_sing 13 = .ok (.astore 4, 2) := by decide +kernel
theorem dL_sing_15 : decode cL_sing 15 = .ok (.iconst 1, 1) := by decide +kernel
theorem dL_sing_16 : decode cL_sing 16 = .ok (.ireturn, 1) := by decide +kernel
theorem dL_sing_17 : decode cL_sing 17 = .ok (.astore 4, 2) := by decide +kernel
theorem dL_sing_19 : decode cL_sing 19 = .ok (.iconst 2, 1) := by decide +kernel
theorem dL_sing_20 : decode cL_sing 20 = .ok (.ireturn, 1) := by decide +kernel
theorem dL_sing_21 : decode cL_sing 21 = .ok (.astore 4, 2) := by decide +kernel
theorem dL_sing_23 : decode cL_sing 23 = .ok (.iconst 3, 1) := by decide +kernel
theorem dL_sing_24 : decode cL_sing 24 = .ok (.ireturn, 1) := by decide +kernel
theorem dL_sing_25 : decode cL_sing 25 = .ok (.iconst 0, 1) := by decide +kernel
theorem dL_sing_26 : decode cL_sing 26 = .ok (.ireturn, 1) := by decide +kernel
set_option maxRecDepth 20000 in
theorem ggL_wake_X1_wake : GoodIn wsL_wake wsX1_wake := goodIn_ca (goodIn_r _ [6, 7, 8, 9, 10, 11, 5, 12, 13, 14, 15, 16, 17, 18, 19, 20, 21, 22, 23, 24, 25, 26, 27, 28, 29, 30, 31, 32, 33, 34, 35, 36, 37] (by decide +kernel) (by decide +kernel)) (goodIn_sub (fun _ h => List.mem_cons_of_mem _ (List.mem_append_right _ h)) (by decide +kernel))
set_option maxRecDepth 20000 in
theorem gL_wake_X1_wake : GoodIn wsL_wake (wsV RL 30 RX1 yX1_wake wsX1_wake) := goodIn_app (goodIn_of _ (by decide +kernel)) ggL_wake_X1_wake
theorem dL_wake_0 : decode cL_wake 0 = .ok (.aload_n 2, 1) := by decide +kernel
theorem dL_wake_1 : decode cL_wake 1 = .ok (.iconst 0, 1) := by decide +kernel
theorem dL_wake_2 : decode cL_wake 2 = .ok (.aload_n 0, 1) := by decide +kernel
theorem dL_wake_3 : decode cL_wake 3 = .ok (.iload_n 1, 1) := by decide +kernel
theorem dL_wake_4 : decode cL_wake 4 = .ok (.invokevirtual 30, 3) := by decide +kernel
theorem dL_wake_7 : decode cL_wake 7 = .ok (.i2l, 1) := by decide +kernel
theorem dL_wake_8 : decode cL_wake 8 = .ok (.lastore, 1) := by decide +kernel
theorem dL_wake_9 : decode cL_wake 9 = .ok (.goto 6, 3) := by decide +kernel
theorem dL_wake_12 : decode cL_wake 12 = .ok (.astore_n 3, 1) := by decide +kernel
theorem dL_wake_13 : decode cL_wake 13 = .ok (.iconst 1, 1) := by decide +kernel
theorem dL_wake_14 : decode cL_wake 14 = .ok (.ireturn, 1) := by decide +kernel
theorem dL_wake_15 : decode cL_wake 15 = .ok (.iconst 0, 1) := by decide +kernel
theorem dL_wake_16 : decode cL_wake 16 = .ok (.ireturn, 1) := by decide +kernel
set_option maxRecDepth 20000 in
theorem ggL_pass_X1_pass : GoodIn wsL_pass wsX1_pass := goodIn_ca (goodIn_r _ [6, 7, 8, 9, 5, 10, 11, 12, 13, 14, 15, 16, 17, 18, 19, 20, 21, 22, 23, 24, 25, 26, 27, 28, 29, 30, 31, 32, 33, 34, 35, 36, 37, 38, 39, 40, 41, 42, 43, 44, 45, 46, 47, 48, 49, 50, 51, 52, 53, 54, 55, 56, 57, 58, 59, 60, 61, 62, 63, 64, 65, 66, 67, 68, 69, 70, 71, 72, 73, 74, 75, 76, 77, 78, 79, 80, 81, 82, 83, 84, 85, 86, 87, 88, 89, 90, 91, 92, 93, 94, 95, 96, 97, 98, 99, 100] (by decide +kernel) (by decide +kernel)) (goodIn_sub (fun _ h => List.mem_cons_of_mem _ (List.mem_append_right _ h)) (by decide +kernel))
set_option maxRecDepth 20000 in
theorem gL_pass_X1_pass : GoodIn wsL_pass (wsV RL 34 RX1 yX1_pass wsX1_pass) := goodIn_app (goodIn_of _ (by decide +kernel)) ggL_pass_X1_pass
theorem dL_pass_0 : decode cL_pass 0 = .ok (.aload_n 2, 1) := by decide +kernel
theorem dL_pass_1 : decode cL_pass 1 = .ok (.iconst 0, 1) := by decide +kernel
theorem dL_pass_2 : decode cL_pass 2 = .ok (.aload_n 0, 1) := by decide +kernel
theorem dL_pass_3 : decode cL_pass 3 = .ok (.iload_n 1, 1) := by decide +kernel
theorem dL_pass_4 : decode cL_pass 4 = .ok (.invokevirtual 34, 3) := by decide +kernel
theorem dL_pass_7 : decode cL_pass 7 = .ok (.i2l, 1) := by decide +kernel
theorem dL_pass_8 : decode cL_pass 8 = .ok (.lastore, 1) := by decide +kernel
theorem dL_pass_9 : decode cL_pass 9 = .ok (.goto 6, 3) := by decide +kernel
theorem dL_pass_12 : decode cL_pass 12 = .ok (.astore_n 3, 1) := by decide +kernel
theorem dL_pass_13 : decode cL_pass 13 = .ok (.iconst 1, 1) := by decide +kernel
theorem dL_pass_14 : decode cL_pass 14 = .ok (.ireturn, 1) := by decide +kernel
theorem dL_pass_15 : decode cL_pass 15 = .ok (.iconst 0, 1) := by decide +kernel
theorem dL_pass_16 : decode cL_pass 16 = .ok (.ireturn, 1) := by decide +kernel
set_option maxRecDepth 20000 in
theorem ggL_stateOf_X1_stateOf : GoodIn wsL_stateOf wsX1_stateOf := goodIn_ca (goodIn_r _ [6, 7, 8, 9, 10, 11, 5, 12, 13, 14, 15, 16, 17, 18, 19, 20, 21, 22, 23, 24, 25, 26, 27, 28, 29, 30, 31, 32, 33, 34, 35, 36, 37] (by decide +kernel) (by decide +kernel)) (goodIn_sub (fun _ h => List.mem_cons_of_mem _ (List.mem_append_right _ h)) (by decide +kernel))
set_option maxRecDepth 20000 in
theorem gL_stateOf_X1_stateOf : GoodIn wsL_stateOf (wsV RL 37 RX1 yX1_stateOf wsX1_stateOf) := goodIn_app (goodIn_of _ (by decide +kernel)) ggL_stateOf_X1_stateOf
theorem dL_stateOf_0 : decode cL_stateOf 0 = .ok (.aload_n 2, 1) := by decide +kernel
theorem dL_stateOf_1 : decode cL_stateOf 1 = .ok (.iconst 0, 1) := by decide +kernel
theorem dL_stateOf_2 : decode cL_stateOf 2 = .ok (.aload_n 0, 1) := by decide +kernel
theorem dL_stateOf_3 : decode cL_stateOf 3 = .ok (.iload_n 1, 1) := by decide +kernel
theorem dL_stateOf_4 : decode cL_stateOf 4 = .ok (.invokevirtual 37, 3) := by decide +kernel
theorem dL_stateOf_7 : decode cL_stateOf 7 = .ok (.i2l, 1) := by decide +kernel
theorem dL_stateOf_8 : decode cL_stateOf 8 = .ok (.lastore, 1) := by decide +kernel
theorem dL_stateOf_9 : decode cL_stateOf 9 = .ok (.goto 6, 3) := by decide +kernel
theorem dL_stateOf_12 : decode cL_stateOf 12 = .ok (.astore_n 3, 1) := by decide +kernel
theorem dL_stateOf_13 : decode cL_stateOf 13 = .ok (.iconst 1, 1) := by decide +kernel
theorem dL_stateOf_14 : decode cL_stateOf 14 = .ok (.ireturn, 1) := by decide +kernel
theorem dL_stateOf_15 : decode cL_stateOf 15 = .ok (.iconst 0, 1) := by decide +kernel
theorem dL_stateOf_16 : decode cL_stateOf 16 = .ok (.ireturn, 1) := by decide +kernel
set_option maxRecDepth 20000 in
theorem ggL_hiddenOf_X1_hiddenOf : GoodIn wsL_hiddenOf wsX1_hiddenOf := goodIn_ca (goodIn_r _ [6, 7, 8, 9, 10, 5, 11, 12, 13, 14, 15, 16, 17, 18, 19, 20, 21, 22, 23, 24, 25, 26, 27, 28, 29, 30, 31, 32, 33, 34, 35, 36, 37, 38, 39, 40, 41, 42] (by decide +kernel) (by decide +kernel)) (goodIn_sub (fun _ h => List.mem_cons_of_mem _ (List.mem_append_right _ h)) (by decide +kernel))
set_option maxRecDepth 20000 in
theorem gL_hiddenOf_X1_hiddenOf : GoodIn wsL_hiddenOf (wsV RL 40 RX1 yX1_hiddenOf wsX1_hiddenOf) := goodIn_app (goodIn_of _ (by decide +kernel)) ggL_hiddenOf_X1_hiddenOf
theorem dL_hiddenOf_0 : decode cL_hiddenOf 0 = .ok (.aload_n 2, 1) := by decide +kernel
theorem dL_hiddenOf_1 : decode cL_hiddenOf 1 = .ok (.iconst 0, 1) := by decide +kernel
theorem dL_hiddenOf_2 : decode cL_hiddenOf 2 = .ok (.aload_n 0, 1) := by decide +kernel
theorem dL_hiddenOf_3 : decode cL_hiddenOf 3 = .ok (.iload_n 1, 1) := by decide +kernel
theorem dL_hiddenOf_4 : decode cL_hiddenOf 4 = .ok (.invokevirtual 40, 3) := by decide +kernel
theorem dL_hiddenOf_7 : decode cL_hiddenOf 7 = .ok (.i2l, 1) := by decide +kernel
theorem dL_hiddenOf_8 : decode cL_hiddenOf 8 = .ok (.lastore, 1) := by decide +kernel
theorem dL_hiddenOf_9 : decode cL_hiddenOf 9 = .ok (.goto 6, 3) := by decide +kernel
theorem dL_hiddenOf_12 : decode cL_hiddenOf 12 = .ok (.astore_n 3, 1) := by decide +kernel
theorem dL_hiddenOf_13 : decode cL_hiddenOf 13 = .ok (.iconst 1, 1) := by decide +kernel
theorem dL_hiddenOf_14 : decode cL_hiddenOf 14 = .ok (.ireturn, 1) := by decide +kernel
theorem dL_hiddenOf_15 : decode cL_hiddenOf 15 = .ok (.iconst 0, 1) := by decide +kernel
theorem dL_hiddenOf_16 : decode cL_hiddenOf 16 = .ok (.ireturn, 1) := by decide +kernel
set_option maxRecDepth 20000 in
theorem ggL_lullabyOf_X1_lullabyOf : GoodIn wsL_lullabyOf wsX1_lullabyOf := goodIn_ca (goodIn_r _ [6, 7, 8, 9, 10, 11, 5, 12, 13, 14, 15, 16, 17, 18, 19, 20, 21, 22, 23, 24, 25, 26, 27, 28, 29, 30, 31, 32, 33, 34, 35, 36, 37] (by decide +kernel) (by decide +kernel)) (goodIn_sub (fun _ h => List.mem_cons_of_mem _ (List.mem_append_right _ h)) (by decide +kernel))
set_option maxRecDepth 20000 in
theorem gL_lullabyOf_X1_lullabyOf : GoodIn wsL_lullabyOf (wsV RL 43 RX1 yX1_lullabyOf wsX1_lullabyOf) := goodIn_app (goodIn_of _ (by decide +kernel)) ggL_lullabyOf_X1_lullabyOf
theorem dL_lullabyOf_0 : decode cL_lullabyOf 0 = .ok (.aload_n 2, 1) := by decide +kernel
theorem dL_lullabyOf_1 : decode cL_lullabyOf 1 = .ok (.iconst 0, 1) := by decide +kernel
theorem dL_lullabyOf_2 : decode cL_lullabyOf 2 = .ok (.aload_n 0, 1) := by decide +kernel
theorem dL_lullabyOf_3 : decode cL_lullabyOf 3 = .ok (.iload_n 1, 1) := by decide +kernel
theorem dL_lullabyOf_4 : decode cL_lullabyOf 4 = .ok (.invokevirtual 43, 3) := by decide +kernel
theorem dL_lullabyOf_7 : decode cL_lullabyOf 7 = .ok (.i2l, 1) := by decide +kernel
theorem dL_lullabyOf_8 : decode cL_lullabyOf 8 = .ok (.lastore, 1) := by decide +kernel
theorem dL_lullabyOf_9 : decode cL_lullabyOf 9 = .ok (.goto 6, 3) := by decide +kernel
theorem dL_lullabyOf_12 : decode cL_lullabyOf 12 = .ok (.astore_n 3, 1) := by decide +kernel
theorem dL_lullabyOf_13 : decode cL_lullabyOf 13 = .ok (.iconst 1, 1) := by decide +kernel
theorem dL_lullabyOf_14 : decode cL_lullabyOf 14 = .ok (.ireturn, 1) := by decide +kernel
theorem dL_lullabyOf_15 : decode cL_lullabyOf 15 = .ok (.iconst 0, 1) := by decide +kernel
theorem dL_lullabyOf_16 : decode cL_lullabyOf 16 = .ok (.ireturn, 1) := by decide +kernel
set_option maxRecDepth 20000 in
theorem ggL_placeInLine_X1_placeInLine : GoodIn wsL_placeInLine wsX1_placeInLine := goodIn_ca (goodIn_r _ [6, 7, 8, 9, 10, 11, 5, 12, 13, 14, 15, 16, 17, 18, 19, 20, 21, 22, 23, 24, 25, 26, 27, 28, 29, 30, 31, 32, 33, 34, 35, 36, 37, 38, 39, 40, 41, 42] (by decide +kernel) (by decide +kernel)) (goodIn_sub (fun _ h => List.mem_cons_of_mem _ (List.mem_append_right _ h)) (by decide +kernel))
set_option maxRecDepth 20000 in
theorem gL_placeInLine_X1_placeInLine : GoodIn wsL_placeInLine (wsV RL 46 RX1 yX1_placeInLine wsX1_placeInLine) := goodIn_app (goodIn_of _ (by decide +kernel)) ggL_placeInLine_X1_placeInLine
theorem dL_placeInLine_0 : decode cL_placeInLine 0 = .ok (.aload_n 2, 1) := by decide +kernel
theorem dL_placeInLine_1 : decode cL_placeInLine 1 = .ok (.iconst 0, 1) := by decide +kernel
theorem dL_placeInLine_2 : decode cL_placeInLine 2 = .ok (.aload_n 0, 1) := by decide +kernel
theorem dL_placeInLine_3 : decode cL_placeInLine 3 = .ok (.iload_n 1, 1) := by decide +kernel
theorem dL_placeInLine_4 : decode cL_placeInLine 4 = .ok (.invokevirtual 46, 3) := by decide +kernel
theorem dL_placeInLine_7 : decode cL_placeInLine 7 = .ok (.i2l, 1) := by decide +kernel
theorem dL_placeInLine_8 : decode cL_placeInLine 8 = .ok (.lastore, 1) := by decide +kernel
theorem dL_placeInLine_9 : decode cL_placeInLine 9 = .ok (.goto 6, 3) := by decide +kernel
theorem dL_placeInLine_12 : decode cL_placeInLine 12 = .ok (.astore_n 3, 1) := by decide +kernel
theorem dL_placeInLine_13 : decode cL_placeInLine 13 = .ok (.iconst 1, 1) := by decide +kernel
theorem dL_placeInLine_14 : decode cL_placeInLine 14 = .ok (.ireturn, 1) := by decide +kernel
theorem dL_placeInLine_15 : decode cL_placeInLine 15 = .ok (.iconst 0, 1) := by decide +kernel
theorem dL_placeInLine_16 : decode cL_placeInLine 16 = .ok (.ireturn, 1) := by decide +kernel
set_option maxRecDepth 20000 in
theorem ggL_searchTime_X1_searchTime : GoodIn wsL_searchTime wsX1_searchTime := goodIn_ca (goodIn_r _ [6, 7, 8, 9, 10, 5, 11, 12, 13, 14, 15, 16, 17, 18, 19, 20, 21, 22, 23, 24, 25, 26, 27, 28, 29, 30, 31, 32, 33, 34, 35, 36, 37, 38, 39, 40, 41, 42, 43, 44, 45, 46, 47] (by decide +kernel) (by decide +kernel)) (goodIn_sub (fun _ h => List.mem_cons_of_mem _ (List.mem_append_right _ h)) (by decide +kernel))
set_option maxRecDepth 20000 in
theorem gL_searchTime_X1_searchTime : GoodIn wsL_searchTime (wsV RL 49 RX1 yX1_searchTime wsX1_searchTime) := goodIn_app (goodIn_of _ (by decide +kernel)) ggL_searchTime_X1_searchTime
theorem dL_searchTime_0 : decode cL_searchTime 0 = .ok (.aload_n 2, 1) := by decide +kernel
theorem dL_searchTime_1 : decode cL_searchTime 1 = .ok (.iconst 0, 1) := by decide +kernel
theorem dL_searchTime_2 : decode cL_searchTime 2 = .ok (.aload_n 0, 1) := by decide +kernel
theorem dL_searchTime_3 : decode cL_searchTime 3 = .ok (.iload_n 1, 1) := by decide +kernel
theorem dL_searchTime_4 : decode cL_searchTime 4 = .ok (.invokevirtual 49, 3) := by decide +kernel
theorem dL_searchTime_7 : decode cL_searchTime 7 = .ok (.i2l, 1) := by decide +kernel
theorem dL_searchTime_8 : decode cL_searchTime 8 = .ok (.lastore, 1) := by decide +kernel
theorem dL_searchTime_9 : decode cL_searchTime 9 = .ok (.goto 6, 3) := by decide +kernel
theorem dL_searchTime_12 : decode cL_searchTime 12 = .ok (.astore_n 3, 1) := by decide +kernel
theorem dL_searchTime_13 : decode cL_searchTime 13 = .ok (.iconst 1, 1) := by decide +kernel
theorem dL_searchTime_14 : decode cL_searchTime 14 = .ok (.ireturn, 1) := by decide +kernel
theorem dL_searchTime_15 : decode cL_searchTime 15 = .ok (.iconst 0, 1) := by decide +kernel
theorem dL_searchTime_16 : decode cL_searchTime 16 = .ok (.ireturn, 1) := by decide +kernel
set_option maxRecDepth 20000 in
theorem ggL_alertnessOf_X1_alertnessOf : GoodIn wsL_alertnessOf wsX1_alertnessOf := goodIn_ca (goodIn_r _ [6, 7, 8, 9, 10, 11, 5, 12, 13, 14, 15, 16, 17, 18, 19, 20, 21, 22, 23, 24, 25, 26, 27, 28, 29, 30, 31, 32, 33, 34, 35, 36, 37] (by decide +kernel) (by decide +kernel)) (goodIn_sub (fun _ h => List.mem_cons_of_mem _ (List.mem_append_right _ h)) (by decide +kernel))
set_option maxRecDepth 20000 in
theorem gL_alertnessOf_X1_alertnessOf : GoodIn wsL_alertnessOf (wsV RL 52 RX1 yX1_alertnessOf wsX1_alertnessOf) := goodIn_app (goodIn_of _ (by decide +kernel)) ggL_alertnessOf_X1_alertnessOf
theorem dL_alertnessOf_0 : decode cL_alertnessOf 0 = .ok (.aload_n 2, 1) := by decide +kernel
theorem dL_alertnessOf_1 : decode cL_alertnessOf 1 = .ok (.iconst 0, 1) := by decide +kernel
theorem dL_alertnessOf_2 : decode cL_alertnessOf 2 = .ok (.aload_n 0, 1) := by decide +kernel
theorem dL_alertnessOf_3 : decode cL_alertnessOf 3 = .ok (.iload_n 1, 1) := by decide +kernel
theorem dL_alertnessOf_4 : decode cL_alertnessOf 4 = .ok (.invokevirtual 52, 3) := by decide +kernel
theorem dL_alertnessOf_7 : decode cL_alertnessOf 7 = .ok (.i2l, 1) := by decide +kernel
theorem dL_alertnessOf_8 : decode cL_alertnessOf 8 = .ok (.lastore, 1) := by decide +kernel
theorem dL_alertnessOf_9 : decode cL_alertnessOf 9 = .ok (.goto 6, 3) := by decide +kernel
theorem dL_alertnessOf_12 : decode cL_alertnessOf 12 = .ok (.astore_n 3, 1) := by decide +kernel
theorem dL_alertnessOf_13 : decode cL_alertnessOf 13 = .ok (.iconst 1, 1) := by decide +kernel
theorem dL_alertnessOf_14 : decode cL_alertnessOf 14 = .ok (.ireturn, 1) := by decide +kernel
theorem dL_alertnessOf_15 : decode cL_alertnessOf 15 = .ok (.iconst 0, 1) := by decide +kernel
theorem dL_alertnessOf_16 : decode cL_alertnessOf 16 = .ok (.ireturn, 1) := by decide +kernel
set_option maxRecDepth 20000 in
theorem ggL_searches_X1_searches : GoodIn wsL_searches wsX1_searches := goodIn_ca (goodIn_r _ [6, 7, 8, 9, 10, 11, 5, 12, 13, 14, 15, 16, 17, 18, 19, 20, 21, 22, 23, 24, 25, 26, 27, 28, 29, 30, 31, 32, 33, 34, 35, 36, 37] (by decide +kernel) (by decide +kernel)) (goodIn_sub (fun _ h => List.mem_cons_of_mem _ (List.mem_append_right _ h)) (by decide +kernel))
set_option maxRecDepth 20000 in
theorem gL_searches_X1_searches : GoodIn wsL_searches (wsV RL 55 RX1 yX1_searches wsX1_searches) := goodIn_app (goodIn_of _ (by decide +kernel)) ggL_searches_X1_searches
theorem dL_searches_0 : decode cL_searches 0 = .ok (.aload_n 2, 1) := by decide +kernel
theorem dL_searches_1 : decode cL_searches 1 = .ok (.iconst 0, 1) := by decide +kernel
theorem dL_searches_2 : decode cL_searches 2 = .ok (.aload_n 0, 1) := by decide +kernel
theorem dL_searches_3 : decode cL_searches 3 = .ok (.iload_n 1, 1) := by decide +kernel
theorem dL_searches_4 : decode cL_searches 4 = .ok (.invokevirtual 55, 3) := by decide +kernel
theorem dL_searches_7 : decode cL_searches 7 = .ok (.i2l, 1) := by decide +kernel
theorem dL_searches_8 : decode cL_searches 8 = .ok (.lastore, 1) := by decide +kernel
theorem dL_searches_9 : decode cL_searches 9 = .ok (.goto 6, 3) := by decide +kernel
theorem dL_searches_12 : decode cL_searches 12 = .ok (.astore_n 3, 1) := by decide +kernel
theorem dL_searches_13 : decode cL_searches 13 = .ok (.iconst 1, 1) := by decide +kernel
theorem dL_searches_14 : decode cL_searches 14 = .ok (.ireturn, 1) := by decide +kernel
theorem dL_searches_15 : decode cL_searches 15 = .ok (.iconst 0, 1) := by decide +kernel
theorem dL_searches_16 : decode cL_searches 16 = .ok (.ireturn, 1) := by decide +kernel
set_option maxRecDepth 20000 in
theorem ggL_minutesToGo_X1_minutesToGo : GoodIn wsL_minutesToGo wsX1_minutesToGo := goodIn_ca (goodIn_r _ [6, 7, 8, 9, 10, 11, 5, 12, 13, 14, 15, 16, 17, 18, 19, 20, 21, 22, 23, 24, 25, 26, 27, 28, 29, 30, 31, 32, 33, 34, 35, 36, 37] (by decide +kernel) (by decide +kernel)) (goodIn_sub (fun _ h => List.mem_cons_of_mem _ (List.mem_append_right _ h)) (by decide +kernel))
set_option maxRecDepth 20000 in
theorem gL_minutesToGo_X1_minutesToGo : GoodIn wsL_minutesToGo (wsV RL 58 RX1 yX1_minutesToGo wsX1_minutesToGo) := goodIn_app (goodIn_of _ (by decide +kernel)) ggL_minutesToGo_X1_minutesToGo
theorem dL_minutesToGo_0 : decode cL_minutesToGo 0 = .ok (.aload_n 2, 1) := by decide +kernel
theorem dL_minutesToGo_1 : decode cL_minutesToGo 1 = .ok (.iconst 0, 1) := by decide +kernel
theorem dL_minutesToGo_2 : decode cL_minutesToGo 2 = .ok (.aload_n 0, 1) := by decide +kernel
theorem dL_minutesToGo_3 : decode cL_minutesToGo 3 = .ok (.iload_n 1, 1) := by decide +kernel
theorem dL_minutesToGo_4 : decode cL_minutesToGo 4 = .ok (.invokevirtual 58, 3) := by decide +kernel
theorem dL_minutesToGo_7 : decode cL_minutesToGo 7 = .ok (.i2l, 1) := by decide +kernel
theorem dL_minutesToGo_8 : decode cL_minutesToGo 8 = .ok (.lastore, 1) := by decide +kernel
theorem dL_minutesToGo_9 : decode cL_minutesToGo 9 = .ok (.goto 6, 3) := by decide +kernel
theorem dL_minutesToGo_12 : decode cL_minutesToGo 12 = .ok (.astore_n 3, 1) := by decide +kernel
theorem dL_minutesToGo_13 : decode cL_minutesToGo 13 = .ok (.iconst 1, 1) := by decide +kernel
theorem dL_minutesToGo_14 : decode cL_minutesToGo 14 = .ok (.ireturn, 1) := by decide +kernel
theorem dL_minutesToGo_15 : decode cL_minutesToGo 15 = .ok (.iconst 0, 1) := by decide +kernel
theorem dL_minutesToGo_16 : decode cL_minutesToGo 16 = .ok (.ireturn, 1) := by decide +kernel
set_option maxRecDepth 20000 in
theorem ggL_wouldFind_X1_wouldFind : GoodIn wsL_wouldFind wsX1_wouldFind := goodIn_ca (goodIn_r _ [6, 7, 8, 9, 10, 5, 11, 12, 13, 14, 15, 16, 17, 18, 19, 20, 21, 22, 23, 24, 25, 26, 27, 28, 29, 30, 31, 32, 33, 34, 35, 36, 37, 38, 39, 40, 41, 42, 43, 44, 45, 46, 47, 48, 49, 50, 51, 52, 53, 54, 55, 56] (by decide +kernel) (by decide +kernel)) (goodIn_sub (fun _ h => List.mem_cons_of_mem _ (List.mem_append_right _ h)) (by decide +kernel))
set_option maxRecDepth 20000 in
theorem gL_wouldFind_X1_wouldFind : GoodIn wsL_wouldFind (wsV RL 61 RX1 yX1_wouldFind wsX1_wouldFind) := goodIn_app (goodIn_of _ (by decide +kernel)) ggL_wouldFind_X1_wouldFind
theorem dL_wouldFind_0 : decode cL_wouldFind 0 = .ok (.aload_n 3, 1) := by decide +kernel
theorem dL_wouldFind_1 : decode cL_wouldFind 1 = .ok (.iconst 0, 1) := by decide +kernel
theorem dL_wouldFind_2 : decode cL_wouldFind 2 = .ok (.aload_n 0, 1) := by decide +kernel
theorem dL_wouldFind_3 : decode cL_wouldFind 3 = .ok (.iload_n 1, 1) := by decide +kernel
theorem dL_wouldFind_4 : decode cL_wouldFind 4 = .ok (.iload_n 2, 1) := by decide +kernel
theorem dL_wouldFind_5 : decode cL_wouldFind 5 = .ok (.invokevirtual 61, 3) := by decide +kernel
theorem dL_wouldFind_8 : decode cL_wouldFind 8 = .ok (.ifCond .eq 7, 3) := by decide +kernel
theorem dL_wouldFind_11 : decode cL_wouldFind 11 = .ok (.lconst 1, 1) := by decide +kernel
theorem dL_wouldFind_12 : decode cL_wouldFind 12 = .ok (.goto 4, 3) := by decide +kernel
theorem dL_wouldFind_15 : decode cL_wouldFind 15 = .ok (.lconst 0, 1) := by decide +kernel
theorem dL_wouldFind_16 : decode cL_wouldFind 16 = .ok (.lastore, 1) := by decide +kernel
theorem dL_wouldFind_17 : decode cL_wouldFind 17 = .ok (.goto 7, 3) := by decide +kernel
theorem dL_wouldFind_20 : decode cL_wouldFind 20 = .ok (.astore 4, 2) := by decide +kernel
theorem dL_wouldFind_22 : decode cL_wouldFind 22 = .ok (.iconst 1, 1) := by decide +kernel
theorem dL_wouldFind_23 : decode cL_wouldFind 23 = .ok (.ireturn, 1) := by decide +kernel
theorem dL_wouldFind_24 : decode cL_wouldFind 24 = .ok (.iconst 0, 1) := by decide +kernel
theorem dL_wouldFind_25 : decode cL_wouldFind 25 = .ok (.ireturn, 1) := by decide +kernel
set_option maxRecDepth 20000 in
theorem ggL_minutesUntilAsleep_X1_minutesUntilAsleep : GoodIn wsL_minutesUntilAsleep wsX1_minutesUntilAsleep := goodIn_ca (goodIn_r _ [6, 7, 8, 9, 10, 11, 5, 12, 13, 14, 15, 16, 17, 18, 19, 20, 21, 22, 23, 24, 25, 26, 27, 28, 29, 30, 31, 32, 33, 34, 35, 36, 37, 38, 39, 40, 41, 42, 43, 44, 45, 46, 47, 48, 49, 50, 51, 52, 53, 54, 55, 56, 57, 58, 59, 60, 61, 62, 63, 64, 65, 66, 67, 68, 69, 70, 71, 72, 73, 74, 75, 76, 77, 78, 79, 80, 81, 82, 83, 84, 85, 86, 87, 88, 89, 90, 91, 92, 93, 94, 95, 96, 97, 98, 99, 100, 101, 102, 103, 104, 105, 106, 107, 108, 109, 110, 111, 112, 113, 114, 115, 116, 117, 118] (by decide +kernel) (by decide +kernel)) (goodIn_sub (fun _ h => List.mem_cons_of_mem _ (List.mem_append_right _ h)) (by decide +kernel))
set_option maxRecDepth 20000 in
theorem gL_minutesUntilAsleep_X1_minutesUntilAsleep : GoodIn wsL_minutesUntilAsleep (wsV RL 65 RX1 yX1_minutesUntilAsleep wsX1_minutesUntilAsleep) := goodIn_app (goodIn_of _ (by decide +kernel)) ggL_minutesUntilAsleep_X1_minutesUntilAsleep
theorem dL_minutesUntilAsleep_0 : decode cL_minutesUntilAsleep 0 = .ok (.aload_n 2, 1) := by decide +kernel
theorem dL_minutesUntilAsleep_1 : decode cL_minutesUntilAsleep 1 = .ok (.iconst 0, 1) := by decide +kernel
theorem dL_minutesUntilAsleep_2 : decode cL_minutesUntilAsleep 2 = .ok (.aload_n 0, 1) := by decide +kernel
theorem dL_minutesUntilAsleep_3 : decode cL_minutesUntilAsleep 3 = .ok (.iload_n 1, 1) := by decide +kernel
theorem dL_minutesUntilAsleep_4 : decode cL_minutesUntilAsleep 4 = .ok (.invokevirtual 65, 3) := by decide +kernel
theorem dL_minutesUntilAsleep_7 : decode cL_minutesUntilAsleep 7 = .ok (.i2l, 1) := by decide +kernel
theorem dL_minutesUntilAsleep_8 : decode cL_minutesUntilAsleep 8 = .ok (.lastore, 1) := by decide +kernel
theorem dL_minutesUntilAsleep_9 : decode cL_minutesUntilAsleep 9 = .ok (.goto 6, 3) := by decide +kernel
theorem dL_minutesUntilAsleep_12 : decode cL_minutesUntilAsleep 12 = .ok (.astore_n 3, 1) := by decide +kernel
theorem dL_minutesUntilAsleep_13 : decode cL_minutesUntilAsleep 13 = .ok (.iconst 1, 1) := by decide +kernel
theorem dL_minutesUntilAsleep_14 : decode cL_minutesUntilAsleep 14 = .ok (.ireturn, 1) := by decide +kernel
theorem dL_minutesUntilAsleep_15 : decode cL_minutesUntilAsleep 15 = .ok (.iconst 0, 1) := by decide +kernel
theorem dL_minutesUntilAsleep_16 : decode cL_minutesUntilAsleep 16 = .ok (.ireturn, 1) := by decide +kernel
set_option maxRecDepth 20000 in
theorem ggL_asleepIn_X1_asleepIn : GoodIn wsL_asleepIn wsX1_asleepIn := goodIn_ca (goodIn_r _ [6, 7, 8, 9, 10, 5, 11, 12, 13, 14, 15, 16, 17, 18, 19, 20, 21, 22, 23, 24, 25, 26, 27, 28, 29, 30, 31, 32, 33, 34, 35, 36, 37, 38, 39, 40, 41, 42, 43, 44, 45, 46, 47, 48, 49, 50, 51, 52, 53, 54, 55, 56, 57, 58, 59, 60, 61, 62, 63, 64, 65, 66, 67, 68, 69, 70, 71, 72, 73, 74, 75, 76, 77, 78, 79, 80, 81, 82, 83, 84, 85, 86, 87, 88, 89, 90, 91, 92, 93, 94, 95, 96, 97, 98, 99, 100, 101, 102, 103, 104, 105, 106, 107, 108, 109, 110, 111, 112, 113] (by decide +kernel) (by decide +kernel)) (goodIn_sub (fun _ h => List.mem_cons_of_mem _ (List.mem_append_right _ h)) (by decide +kernel))
set_option maxRecDepth 20000 in
theorem gL_asleepIn_X1_asleepIn : GoodIn wsL_asleepIn (wsV RL 68 RX1 yX1_asleepIn wsX1_asleepIn) := goodIn_app (goodIn_of _ (by decide +kernel)) ggL_asleepIn_X1_asleepIn
theorem dL_asleepIn_0 : decode cL_asleepIn 0 = .ok (.aload_n 2, 1) := by decide +kernel
theorem dL_asleepIn_1 : decode cL_asleepIn 1 = .ok (.iconst 0, 1) := by decide +kernel
theorem dL_asleepIn_2 : decode cL_asleepIn 2 = .ok (.aload_n 0, 1) := by decide +kernel
theorem dL_asleepIn_3 : decode cL_asleepIn 3 = .ok (.iload_n 1, 1) := by decide +kernel
theorem dL_asleepIn_4 : decode cL_asleepIn 4 = .ok (.invokevirtual 68, 3) := by decide +kernel
theorem dL_asleepIn_7 : decode cL_asleepIn 7 = .ok (.i2l, 1) := by decide +kernel
theorem dL_asleepIn_8 : decode cL_asleepIn 8 = .ok (.lastore, 1) := by decide +kernel
theorem dL_asleepIn_9 : decode cL_asleepIn 9 = .ok (.goto 6, 3) := by decide +kernel
theorem dL_asleepIn_12 : decode cL_asleepIn 12 = .ok (.astore_n 3, 1) := by decide +kernel
theorem dL_asleepIn_13 : decode cL_asleepIn 13 = .ok (.iconst 1, 1) := by decide +kernel
theorem dL_asleepIn_14 : decode cL_asleepIn 14 = .ok (.ireturn, 1) := by decide +kernel
theorem dL_asleepIn_15 : decode cL_asleepIn 15 = .ok (.iconst 0, 1) := by decide +kernel
theorem dL_asleepIn_16 : decode cL_asleepIn 16 = .ok (.ireturn, 1) := by decide +kernel
set_option maxRecDepth 20000 in
theorem ggL_bestToDeclare_X1_bestToDeclare : GoodIn wsL_bestToDeclare wsX1_bestToDeclare := goodIn_ca (goodIn_r _ [6, 7, 8, 9, 10, 11, 12, 13, 5, 14, 15, 16, 17, 18, 19, 20, 21, 22, 23, 24, 25, 26, 27, 28, 29, 30, 31, 32, 33, 34, 35, 36, 37, 38, 39, 40, 41, 42, 43, 44, 45, 46, 47, 48, 49, 50, 51, 52, 53, 54, 55, 56, 57, 58, 59, 60, 61, 62, 63, 64, 65, 66, 67, 68, 69, 70, 71, 72, 73, 74, 75, 76, 77, 78, 79, 80, 81, 82, 83, 84, 85, 86, 87, 88, 89, 90, 91, 92, 93, 94, 95, 96, 97, 98, 99, 100, 101, 102, 103, 104, 105, 106, 107, 108, 109, 110, 111, 112, 113, 114, 115, 116, 117, 118, 119] (by decide +kernel) (by decide +kernel)) (goodIn_sub (fun _ h => List.mem_cons_of_mem _ (List.mem_append_right _ h)) (by decide +kernel))
set_option maxRecDepth 20000 in
theorem gL_bestToDeclare_X1_bestToDeclare : GoodIn wsL_bestToDeclare (wsV RL 71 RX1 yX1_bestToDeclare wsX1_bestToDeclare) := goodIn_app (goodIn_of _ (by decide +kernel)) ggL_bestToDeclare_X1_bestToDeclare
theorem dL_bestToDeclare_0 : decode cL_bestToDeclare 0 = .ok (.aload_n 2, 1) := by decide +kernel
theorem dL_bestToDeclare_1 : decode cL_bestToDeclare 1 = .ok (.iconst 0, 1) := by decide +kernel
theorem dL_bestToDeclare_2 : decode cL_bestToDeclare 2 = .ok (.aload_n 0, 1) := by decide +kernel
theorem dL_bestToDeclare_3 : decode cL_bestToDeclare 3 = .ok (.iload_n 1, 1) := by decide +kernel
theorem dL_bestToDeclare_4 : decode cL_bestToDeclare 4 = .ok (.invokevirtual 71, 3) := by decide +kernel
theorem dL_bestToDeclare_7 : decode cL_bestToDeclare 7 = .ok (.i2l, 1) := by decide +kernel
theorem dL_bestToDeclare_8 : decode cL_bestToDeclare 8 = .ok (.lastore, 1) := by decide +kernel
theorem dL_bestToDeclare_9 : decode cL_bestToDeclare 9 = .ok (.goto 6, 3) := by decide +kernel
theorem dL_bestToDeclare_12 : decode cL_bestToDeclare 12 = .ok (.astore_n 3, 1) := by decide +kernel
theorem dL_bestToDeclare_13 : decode cL_bestToDeclare 13 = .ok (.iconst 1, 1) := by decide +kernel
theorem dL_bestToDeclare_14 : decode cL_bestToDeclare 14 = .ok (.ireturn, 1) := by decide +kernel
theorem dL_bestToDeclare_15 : decode cL_bestToDeclare 15 = .ok (.iconst 0, 1) := by decide +kernel
theorem dL_bestToDeclare_16 : decode cL_bestToDeclare 16 = .ok (.ireturn, 1) := by decide +kernel
