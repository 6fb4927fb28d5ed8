set_option maxRecDepth 20000 in
theorem ggX1_init_X0_init : GoodIn wsX1_init wsX0_init := goodIn_r _ [10, 11, 2, 3, 12, 13, 14, 15, 16, 17, 18, 19, 20, 21, 22, 23, 24, 25, 26, 27, 28, 29, 30, 31, 32, 33, 34, 35, 36, 37, 38, 39, 40, 41, 42] (by decide +kernel) (by decide +kernel)
set_option maxRecDepth 20000 in
theorem gX1_init_X0_init_n9 : GoodIn wsX1_init (wsX0_init) := ggX1_init_X0_init
theorem dX1_init_0 : decode cX1_init 0 = .ok (.aload_n 0, 1) := by decide +kernel
theorem dX1_init_1 : decode cX1_init 1 = .ok (.invokespecial 1, 3) := by decide +kernel
theorem dX1_init_4 : decode cX1_init 4 = .ok (.aload_n 0, 1) := by decide +kernel
theorem dX1_init_5 : decode cX1_init 5 = .ok (.new 7, 3) := by decide +kernel
theorem dX1_init_8 : decode cX1_init 8 = .ok (.dup, 1) := by decide +kernel
theorem dX1_init_9 : decode cX1_init 9 = .ok (.invokespecial 9, 3) := by decide +kernel
theorem dX1_init_12 : decode cX1_init 12 = .ok (.putfield 10, 3) := by decide +kernel
theorem dX1_init_15 : decode cX1_init 15 = .ok (.aload_n 0, 1) := by decide +kernel
theorem dX1_init_16 : decode cX1_init 16 = .ok (.new 7, 3) := by decide +kernel
theorem dX1_init_19 : decode cX1_init 19 = .ok (.dup, 1) := by decide +kernel
theorem dX1_init_20 : decode cX1_init 20 = .ok (.invokespecial 9, 3) := by decide +kernel
theorem dX1_init_23 : decode cX1_init 23 = .ok (.putfield 16, 3) := by decide +kernel
theorem dX1_init_26 : decode cX1_init 26 = .ok (.return_, 1) := by decide +kernel
set_option maxRecDepth 20000 in
theorem ggX1_addGuard_X0_admitGuard : GoodIn wsX1_addGuard wsX0_admitGuard := goodIn_r _ [9, 10, 11, 12, 13, 16, 17, 18, 19, 20, 21, 22, 23, 24, 25, 26, 27, 28, 29, 30] (by decide +kernel) (by decide +kernel)
set_option maxRecDepth 20000 in
theorem gX1_addGuard_X0_admitGuard : GoodIn wsX1_addGuard (wsV RX1 30 RX0 yX0_admitGuard wsX0_admitGuard) := goodIn_app (goodIn_of _ (by decide +kernel)) ggX1_addGuard_X0_admitGuard
theorem dX1_addGuard_0 : decode cX1_addGuard 0 = .ok (.aload_n 0, 1) := by decide +kernel
theorem dX1_addGuard_1 : decode cX1_addGuard 1 = .ok (.getfield 10, 3) := by decide +kernel
theorem dX1_addGuard_4 : decode cX1_addGuard 4 = .ok (.getfield 19, 3) := by decide +kernel
theorem dX1_addGuard_7 : decode cX1_addGuard 7 = .ok (.iconst 4, 1) := by decide +kernel
theorem dX1_addGuard_8 : decode cX1_addGuard 8 = .ok (.if_icmp .lt 13, 3) := by decide +kernel
theorem dX1_addGuard_11 : decode cX1_addGuard 11 = .ok (.new 23, 3) := by decide +kernel
theorem dX1_addGuard_14 : decode cX1_addGuard 14 = .ok (.dup, 1) := by decide +kernel
theorem dX1_addGuard_15 : decode cX1_addGuard 15 = .ok (.ldc 25, 2) := by decide +kernel
theorem dX1_addGuard_17 : decode cX1_addGuard 17 = .ok (.invokespecial 27, 3) := by decide +kernel
theorem dX1_addGuard_20 : decode cX1_addGuard 20 = .ok (.athrow, 1) := by decide +kernel
theorem dX1_addGuard_21 : decode cX1_addGuard 21 = .ok (.aload_n 0, 1) := by decide +kernel
theorem dX1_addGuard_22 : decode cX1_addGuard 22 = .ok (.getfield 10, 3) := by decide +kernel
theorem dX1_addGuard_25 : decode cX1_addGuard 25 = .ok (.invokevirtual 30, 3) := by decide +kernel
theorem dX1_addGuard_28 : decode cX1_addGuard 28 = .ok (.aload_n 0, 1) := by decide +kernel
theorem dX1_addGuard_29 : decode cX1_addGuard 29 = .ok (.getfield 10, 3) := by decide +kernel
theorem dX1_addGuard_32 : decode cX1_addGuard 32 = .ok (.getfield 19, 3) := by decide +kernel
theorem dX1_addGuard_35 : decode cX1_addGuard 35 = .ok (.iconst 1, 1) := by decide +kernel
theorem dX1_addGuard_36 : decode cX1_addGuard 36 = .ok (.isub, 1) := by decide +kernel
theorem dX1_addGuard_37 : decode cX1_addGuard 37 = .ok (.ireturn, 1) := by decide +kernel
set_option maxRecDepth 20000 in
theorem ggX1_arrive_X1_requireDigit : GoodIn wsX1_arrive wsX1_requireDigit := goodIn_ca (goodIn_r _ [8, 9, 10] (by decide +kernel) (by decide +kernel)) (goodIn_sub (fun _ h => List.mem_cons_of_mem _ (List.mem_append_right _ h)) (by decide +kernel))
set_option maxRecDepth 20000 in
theorem gX1_arrive_X1_requireDigit : GoodIn wsX1_arrive (va_wsS RX1 33 yX1_requireDigit wsX1_requireDigit) := goodIn_app (goodIn_of _ (by decide +kernel)) ggX1_arrive_X1_requireDigit
set_option maxRecDepth 20000 in
theorem ggX1_arrive_X1_requireMinutes : GoodIn wsX1_arrive wsX1_requireMinutes := goodIn_ca (goodIn_r _ [13, 9, 10] (by decide +kernel) (by decide +kernel)) (goodIn_sub (fun _ h => List.mem_cons_of_mem _ (List.mem_append_right _ h)) (by decide +kernel))
set_option maxRecDepth 20000 in
theorem gX1_arrive_X1_requireMinutes : GoodIn wsX1_arrive (va_wsS RX1 37 yX1_requireMinutes wsX1_requireMinutes) := goodIn_app (goodIn_of _ (by decide +kernel)) ggX1_arrive_X1_requireMinutes
set_option maxRecDepth 20000 in
theorem ggX1_arrive_X0_admitTraveller : GoodIn wsX1_arrive wsX0_admitTraveller := goodIn_r _ [18, 19, 20, 21, 22, 23, 24, 27, 28, 29, 30, 31, 32, 33, 34, 35, 36, 37, 38, 39, 40, 41] (by decide +kernel) (by decide +kernel)
set_option maxRecDepth 20000 in
theorem gX1_arrive_X0_admitTraveller : GoodIn wsX1_arrive (wsV RX1 45 RX0 yX0_admitTraveller wsX0_admitTraveller) := goodIn_app (goodIn_of _ (by decide +kernel)) ggX1_arrive_X0_admitTraveller
theorem dX1_arrive_0 : decode cX1_arrive 0 = .ok (.iload_n 1, 1) := by decide +kernel
theorem dX1_arrive_1 : decode cX1_arrive 1 = .ok (.invokestatic 33, 3) := by decide +kernel
theorem dX1_arrive_4 : decode cX1_arrive 4 = .ok (.iload_n 2, 1) := by decide +kernel
theorem dX1_arrive_5 : decode cX1_arrive 5 = .ok (.invokestatic 33, 3) := by decide +kernel
theorem dX1_arrive_8 : decode cX1_arrive 8 = .ok (.iload_n 3, 1) := by decide +kernel
theorem dX1_arrive_9 : decode cX1_arrive 9 = .ok (.invokestatic 33, 3) := by decide +kernel
theorem dX1_arrive_12 : decode cX1_arrive 12 = .ok (.iload 4, 2) := by decide +kernel
theorem dX1_arrive_14 : decode cX1_arrive 14 = .ok (.invokestatic 37, 3) := by decide +kernel
theorem dX1_arrive_17 : decode cX1_arrive 17 = .ok (.aload_n 0, 1) := by decide +kernel
theorem dX1_arrive_18 : decode cX1_arrive 18 = .ok (.getfield 10, 3) := by decide +kernel
theorem dX1_arrive_21 : decode cX1_arrive 21 = .ok (.getfield 40, 3) := by decide +kernel
theorem dX1_arrive_24 : decode cX1_arrive 24 = .ok (.bipush 24, 2) := by decide +kernel
theorem dX1_arrive_26 : decode cX1_arrive 26 = .ok (.if_icmp .lt 13, 3) := by decide +kernel
theorem dX1_arrive_29 : decode cX1_arrive 29 = .ok (.new 23, 3) := by decide +kernel
theorem dX1_arrive_32 : decode cX1_arrive 32 = .ok (.dup, 1) := by decide +kernel
theorem dX1_arrive_33 : decode cX1_arrive 33 = .ok (.ldc 43, 2) := by decide +kernel
theorem dX1_arrive_35 : decode cX1_arrive 35 = .ok (.invokespecial 27, 3) := by decide +kernel
theorem dX1_arrive_38 : decode cX1_arrive 38 = .ok (.athrow, 1) := by decide +kernel
theorem dX1_arrive_39 : decode cX1_arrive 39 = .ok (.aload_n 0, 1) := by decide +kernel
theorem dX1_arrive_40 : decode cX1_arrive 40 = .ok (.getfield 10, 3) := by decide +kernel
theorem dX1_arrive_43 : decode cX1_arrive 43 = .ok (.iload_n 1, 1) := by decide +kernel
theorem dX1_arrive_44 : decode cX1_arrive 44 = .ok (.iload_n 2, 1) := by decide +kernel
theorem dX1_arrive_45 : decode cX1_arrive 45 = .ok (.iload_n 3, 1) := by decide +kernel
theorem dX1_arrive_46 : decode cX1_arrive 46 = .ok (.iload 4, 2) := by decide +kernel
theorem dX1_arrive_48 : decode cX1_arrive 48 = .ok (.invokevirtual 45, 3) := by decide +kernel
theorem dX1_arrive_51 : decode cX1_arrive 51 = .ok (.aload_n 0, 1) := by decide +kernel
theorem dX1_arrive_52 : decode cX1_arrive 52 = .ok (.getfield 10, 3) := by decide +kernel
theorem dX1_arrive_55 : decode cX1_arrive 55 = .ok (.getfield 40, 3) := by decide +kernel
theorem dX1_arrive_58 : decode cX1_arrive 58 = .ok (.iconst 1, 1) := by decide +kernel
theorem dX1_arrive_59 : decode cX1_arrive 59 = .ok (.isub, 1) := by decide +kernel
theorem dX1_arrive_60 : decode cX1_arrive 60 = .ok (.ireturn, 1) := by decide +kernel
set_option maxRecDepth 20000 in
theorem ggX1_declare_X1_requireTraveller : GoodIn wsX1_declare wsX1_requireTraveller := goodIn_ca (goodIn_r _ [7, 8, 9, 1, 10, 11, 12, 13, 14, 15, 28, 29, 30, 31, 32, 33, 34, 35, 36, 37, 38, 39, 40, 41, 42, 43, 44] (by decide +kernel) (by decide +kernel)) (goodIn_sub (fun _ h => List.mem_cons_of_mem _ (List.mem_append_left _ (List.mem_append_left _ (List.mem_append_right _ h)))) (by decide +kernel))
set_option maxRecDepth 20000 in
theorem gX1_declare_X1_requireTraveller : GoodIn wsX1_declare (wsV RX1 49 RX1 yX1_requireTraveller wsX1_requireTraveller) := goodIn_app (goodIn_of _ (by decide +kernel)) ggX1_declare_X1_requireTraveller
set_option maxRecDepth 20000 in
theorem ggX1_declare_X1_requireDigit : GoodIn wsX1_declare wsX1_requireDigit := goodIn_ca (goodIn_r _ [18, 19, 20] (by decide +kernel) (by decide +kernel)) (goodIn_sub (fun _ h => List.mem_cons_of_mem _ (List.mem_append_left _ (List.mem_append_right _ h))) (by decide +kernel))
set_option maxRecDepth 20000 in
theorem gX1_declare_X1_requireDigit : GoodIn wsX1_declare (va_wsS RX1 33 yX1_requireDigit wsX1_requireDigit) := goodIn_app (goodIn_of _ (by decide +kernel)) ggX1_declare_X1_requireDigit
set_option maxRecDepth 20000 in
theorem ggX1_declare_X1_requireWaiting : GoodIn wsX1_declare wsX1_requireWaiting := goodIn_ca (goodIn_r _ [24, 25, 26, 1, 27, 28, 29, 30, 31, 32, 33, 34, 35, 36, 37, 38, 39, 40, 41, 42, 43, 44] (by decide +kernel) (by decide +kernel)) (goodIn_sub (fun _ h => List.mem_cons_of_mem _ (List.mem_append_right _ h)) (by decide +kernel))
set_option maxRecDepth 20000 in
theorem gX1_declare_X1_requireWaiting : GoodIn wsX1_declare (wsV RX1 52 RX1 yX1_requireWaiting wsX1_requireWaiting) := goodIn_app (goodIn_of _ (by decide +kernel)) ggX1_declare_X1_requireWaiting
theorem dX1_declare_0 : decode cX1_declare 0 = .ok (.aload_n 0, 1) := by decide +kernel
theorem dX1_declare_1 : decode cX1_declare 1 = .ok (.iload_n 1, 1) := by decide +kernel
theorem dX1_declare_2 : decode cX1_declare 2 = .ok (.invokevirtual 49, 3) := by decide +kernel
theorem dX1_declare_5 : decode cX1_declare 5 = .ok (.iload_n 2, 1) := by decide +kernel
theorem dX1_declare_6 : decode cX1_declare 6 = .ok (.invokestatic 33, 3) := by decide +kernel
theorem dX1_declare_9 : decode cX1_declare 9 = .ok (.aload_n 0, 1) := by decide +kernel
theorem dX1_declare_10 : decode cX1_declare 10 = .ok (.iload_n 1, 1) := by decide +kernel
theorem dX1_declare_11 : decode cX1_declare 11 = .ok (.invokevirtual 52, 3) := by decide +kernel
theorem dX1_declare_14 : decode cX1_declare 14 = .ok (.aload_n 0, 1) := by decide +kernel
theorem dX1_declare_15 : decode cX1_declare 15 = .ok (.getfield 10, 3) := by decide +kernel
theorem dX1_declare_18 : decode cX1_declare 18 = .ok (.getfield 55, 3) := by decide +kernel
theorem dX1_declare_21 : decode cX1_declare 21 = .ok (.iload_n 1, 1) := by decide +kernel
theorem dX1_declare_22 : decode cX1_declare 22 = .ok (.iaload, 1) := by decide +kernel
theorem dX1_declare_23 : decode cX1_declare 23 = .ok (.istore_n 3, 1) := by decide +kernel
theorem dX1_declare_24 : decode cX1_declare 24 = .ok (.aload_n 0, 1) := by decide +kernel
theorem dX1_declare_25 : decode cX1_declare 25 = .ok (.getfield 10, 3) := by decide +kernel
theorem dX1_declare_28 : decode cX1_declare 28 = .ok (.getfield 55, 3) := by decide +kernel
theorem dX1_declare_31 : decode cX1_declare 31 = .ok (.iload_n 1, 1) := by decide +kernel
theorem dX1_declare_32 : decode cX1_declare 32 = .ok (.iload_n 2, 1) := by decide +kernel
theorem dX1_declare_33 : decode cX1_declare 33 = .ok (.iastore, 1) := by decide +kernel
theorem dX1_declare_34 : decode cX1_declare 34 = .ok (.iload_n 3, 1) := by decide +kernel
theorem dX1_declare_35 : decode cX1_declare 35 = .ok (.ireturn, 1) := by decide +kernel
set_option maxRecDepth 20000 in
theorem ggX1_sing_X1_requireTraveller : GoodIn wsX1_sing wsX1_requireTraveller := goodIn_ca (goodIn_r _ [7, 8, 9, 1, 10, 11, 12, 13, 14, 15, 28, 29, 30, 31, 32, 33, 34, 35, 36, 37, 38, 39, 40, 41, 42, 43, 44] (by decide +kernel) (by decide +kernel)) (goodIn_sub (fun _ h => List.mem_cons_of_mem _ (List.mem_append_left _ (List.mem_append_left _ (List.mem_append_right _ h)))) (by decide +kernel))
set_option maxRecDepth 20000 in
theorem gX1_sing_X1_requireTraveller : GoodIn wsX1_sing (wsV RX1 49 RX1 yX1_requireTraveller wsX1_requireTraveller) := goodIn_app (goodIn_of _ (by decide +kernel)) ggX1_sing_X1_requireTraveller
set_option maxRecDepth 20000 in
theorem ggX1_sing_X1_requireMinutes : GoodIn wsX1_sing wsX1_requireMinutes := goodIn_ca (goodIn_r _ [18, 19, 20] (by decide +kernel) (by decide +kernel)) (goodIn_sub (fun _ h => List.mem_cons_of_mem _ (List.mem_append_left _ (List.mem_append_right _ h))) (by decide +kernel))
set_option maxRecDepth 20000 in
theorem gX1_sing_X1_requireMinutes : GoodIn wsX1_sing (va_wsS RX1 37 yX1_requireMinutes wsX1_requireMinutes) := goodIn_app (goodIn_of _ (by decide +kernel)) ggX1_sing_X1_requireMinutes
set_option maxRecDepth 20000 in
theorem ggX1_sing_X1_requireWaiting : GoodIn wsX1_sing wsX1_requireWaiting := goodIn_ca (goodIn_r _ [24, 25, 26, 1, 27, 28, 29, 30, 31, 32, 33, 34, 35, 36, 37, 38, 39, 40, 41, 42, 43, 44] (by decide +kernel) (by decide +kernel)) (goodIn_sub (fun _ h => List.mem_cons_of_mem _ (List.mem_append_right _ h)) (by decide +kernel))
set_option maxRecDepth 20000 in
theorem gX1_sing_X1_requireWaiting : GoodIn wsX1_sing (wsV RX1 52 RX1 yX1_requireWaiting wsX1_requireWaiting) := goodIn_app (goodIn_of _ (by decide +kernel)) ggX1_sing_X1_requireWaiting
theorem dX1_sing_0 : decode cX1_sing 0 = .ok (.aload_n 0, 1) := by decide +kernel
theorem dX1_sing_1 : decode cX1_sing 1 = .ok (.iload_n 1, 1) := by decide +kernel
theorem dX1_sing_2 : decode cX1_sing 2 = .ok (.invokevirtual 49, 3) := by decide +kernel
theorem dX1_sing_5 : decode cX1_sing 5 = .ok (.iload_n 2, 1) := by decide +kernel
theorem dX1_sing_6 : decode cX1_sing 6 = .ok (.invokestatic 37, 3) := by decide +kernel
theorem dX1_sing_9 : decode cX1_sing 9 = .ok (.aload_n 0, 1) := by decide +kernel
theorem dX1_sing_10 : decode cX1_sing 10 = .ok (.iload_n 1, 1) := by decide +kernel
theorem dX1_sing_11 : decode cX1_sing 11 = .ok (.invokevirtual 52, 3) := by decide +kernel
theorem dX1_sing_14 : decode cX1_sing 14 = .ok (.aload_n 0, 1) := by decide +kernel
theorem dX1_sing_15 : decode cX1_sing 15 = .ok (.getfield 10, 3) := by decide +kernel
theorem dX1_sing_18 : decode cX1_sing 18 = .ok (.getfield 59, 3) := by decide +kernel
theorem dX1_sing_21 : decode cX1_sing 21 = .ok (.iload_n 1, 1) := by decide +kernel
theorem dX1_sing_22 : decode cX1_sing 22 = .ok (.iaload, 1) := by decide +kernel
theorem dX1_sing_23 : decode cX1_sing 23 = .ok (.istore_n 3, 1) := by decide +kernel
theorem dX1_sing_24 : decode cX1_sing 24 = .ok (.aload_n 0, 1) := by decide +kernel
theorem dX1_sing_25 : decode cX1_sing 25 = .ok (.getfield 10, 3) := by decide +kernel
theorem dX1_sing_28 : decode cX1_sing 28 = .ok (.getfield 59, 3) := by decide +kernel
theorem dX1_sing_31 : decode cX1_sing 31 = .ok (.iload_n 1, 1) := by decide +kernel
theorem dX1_sing_32 : decode cX1_sing 32 = .ok (.iload_n 2, 1) := by decide +kernel
theorem dX1_sing_33 : decode cX1_sing 33 = .ok (.iastore, 1) := by decide +kernel
theorem dX1_sing_34 : decode cX1_sing 34 = .ok (.iload_n 3, 1) := by decide +kernel
theorem dX1_sing_35 : decode cX1_sing 35 = .ok (.ireturn, 1) := by decide +kernel
set_option maxRecDepth 20000 in
theorem ggX1_wake_X1_requireGuard : GoodIn wsX1_wake wsX1_requireGuard := goodIn_ca (goodIn_r _ [7, 8, 9, 1, 10, 11, 12, 13, 14, 15, 16, 17, 18, 19, 20, 21, 22, 23, 24, 25, 26, 27, 28, 29, 30, 31, 32] (by decide +kernel) (by decide +kernel)) (goodIn_sub (fun _ h => List.mem_cons_of_mem _ (List.mem_append_right _ h)) (by decide +kernel))
set_option maxRecDepth 20000 in
theorem gX1_wake_X1_requireGuard : GoodIn wsX1_wake (wsV RX1 62 RX1 yX1_requireGuard wsX1_requireGuard) := goodIn_app (goodIn_of _ (by decide +kernel)) ggX1_wake_X1_requireGuard
theorem dX1_wake_0 : decode cX1_wake 0 = .ok (.aload_n 0, 1) := by decide +kernel
theorem dX1_wake_1 : decode cX1_wake 1 = .ok (.iload_n 1, 1) := by decide +kernel
theorem dX1_wake_2 : decode cX1_wake 2 = .ok (.invokevirtual 62, 3) := by decide +kernel
theorem dX1_wake_5 : decode cX1_wake 5 = .ok (.aload_n 0, 1) := by decide +kernel
theorem dX1_wake_6 : decode cX1_wake 6 = .ok (.getfield 10, 3) := by decide +kernel
theorem dX1_wake_9 : decode cX1_wake 9 = .ok (.getfield 65, 3) := by decide +kernel
theorem dX1_wake_12 : decode cX1_wake 12 = .ok (.iload_n 1, 1) := by decide +kernel
theorem dX1_wake_13 : decode cX1_wake 13 = .ok (.iaload, 1) := by decide +kernel
theorem dX1_wake_14 : decode cX1_wake 14 = .ok (.istore_n 2, 1) := by decide +kernel
theorem dX1_wake_15 : decode cX1_wake 15 = .ok (.aload_n 0, 1) := by decide +kernel
theorem dX1_wake_16 : decode cX1_wake 16 = .ok (.getfield 10, 3) := by decide +kernel
theorem dX1_wake_19 : decode cX1_wake 19 = .ok (.getfield 65, 3) := by decide +kernel
theorem dX1_wake_22 : decode cX1_wake 22 = .ok (.iload_n 1, 1) := by decide +kernel
theorem dX1_wake_23 : decode cX1_wake 23 = .ok (.bipush 9, 2) := by decide +kernel
theorem dX1_wake_25 : decode cX1_wake 25 = .ok (.iastore, 1) := by decide +kernel
theorem dX1_wake_26 : decode cX1_wake 26 = .ok (.iload_n 2, 1) := by decide +kernel
theorem dX1_wake_27 : decode cX1_wake 27 = .ok (.ireturn, 1) := by decide +kernel
set_option maxRecDepth 20000 in
theorem ggX1_pass_X1_requireMinutes : GoodIn wsX1_pass wsX1_requireMinutes := goodIn_ca (goodIn_r _ [5, 6, 7] (by decide +kernel) (by decide +kernel)) (goodIn_sub (fun _ h => List.mem_cons_of_mem _ (List.mem_append_right _ h)) (by decide +kernel))
set_option maxRecDepth 20000 in
theorem gX1_pass_X1_requireMinutes : GoodIn wsX1_pass (va_wsS RX1 37 yX1_requireMinutes wsX1_requireMinutes) := goodIn_app (goodIn_of _ (by decide +kernel)) ggX1_pass_X1_requireMinutes
set_option maxRecDepth 20000 in
theorem ggX1_pass_X0_countIn : GoodIn wsX1_pass wsX0_countIn := goodIn_r _ [12, 13, 14, 81, 82, 83, 84, 85, 86, 87, 88, 89, 90, 91, 92, 93, 94, 95] (by decide +kernel) (by decide +kernel)
set_option maxRecDepth 20000 in
theorem gX1_pass_X0_countIn : GoodIn wsX1_pass (wsV RX1 68 RX0 yX0_countIn wsX0_countIn) := goodIn_app (goodIn_of _ (by decide +kernel)) ggX1_pass_X0_countIn
set_option maxRecDepth 20000 in
theorem ggX1_pass_X0_goOneMinute : GoodIn wsX1_pass wsX0_goOneMinute := goodIn_r _ [18, 19, 20, 21, 22, 23, 24, 11, 25, 13, 14, 26, 27, 28, 29, 30, 31, 32, 33, 34, 35, 36, 37, 38, 39, 40, 41, 42, 43, 44, 45, 46, 47, 48, 49, 50, 51, 52, 53, 54, 55, 56, 57, 58, 59, 60, 61, 62, 63, 64, 65, 66, 67, 68, 69, 70, 71, 72, 73, 74, 75, 76, 77, 78, 81, 82, 83, 84, 85, 86, 87, 88, 89, 90, 91, 92, 93, 94, 95] (by decide +kernel) (by decide +kernel)
set_option maxRecDepth 20000 in
theorem gX1_pass_X0_goOneMinute : GoodIn wsX1_pass (wsV RX1 72 RX0 yX0_goOneMinute wsX0_goOneMinute) := goodIn_app (goodIn_of _ (by decide +kernel)) ggX1_pass_X0_goOneMinute
theorem dX1_pass_0 : decode cX1_pass 0 = .ok (.iload_n 1, 1) := by decide +kernel
theorem dX1_pass_1 : decode cX1_pass 1 = .ok (.invokestatic 37, 3) := by decide +kernel
theorem dX1_pass_4 : decode cX1_pass 4 = .ok (.aload_n 0, 1) := by decide +kernel
theorem dX1_pass_5 : decode cX1_pass 5 = .ok (.getfield 10, 3) := by decide +kernel
theorem dX1_pass_8 : decode cX1_pass 8 = .ok (.iconst 3, 1) := by decide +kernel
theorem dX1_pass_9 : decode cX1_pass 9 = .ok (.invokevirtual 68, 3) := by decide +kernel
theorem dX1_pass_12 : decode cX1_pass 12 = .ok (.istore_n 2, 1) := by decide +kernel
theorem dX1_pass_13 : decode cX1_pass 13 = .ok (.iconst 0, 1) := by decide +kernel
theorem dX1_pass_14 : decode cX1_pass 14 = .ok (.istore_n 3, 1) := by decide +kernel
theorem dX1_pass_15 : decode cX1_pass 15 = .ok (.iload_n 3, 1) := by decide +kernel
theorem dX1_pass_16 : decode cX1_pass 16 = .ok (.iload_n 1, 1) := by decide +kernel
theorem dX1_pass_17 : decode cX1_pass 17 = .ok (.if_icmp .ge 16, 3) := by decide +kernel
theorem dX1_pass_20 : decode cX1_pass 20 = .ok (.aload_n 0, 1) := by decide +kernel
theorem dX1_pass_21 : decode cX1_pass 21 = .ok (.getfield 10, 3) := by decide +kernel
theorem dX1_pass_24 : decode cX1_pass 24 = .ok (.invokevirtual 72, 3) := by decide +kernel
theorem dX1_pass_27 : decode cX1_pass 27 = .ok (.iinc 3 1, 3) := by decide +kernel
theorem dX1_pass_30 : decode cX1_pass 30 = .ok (.goto (-15), 3) := by decide +kernel
theorem dX1_pass_33 : decode cX1_pass 33 = .ok (.aload_n 0, 1) := by decide +kernel
theorem dX1_pass_34 : decode cX1_pass 34 = .ok (.getfield 10, 3) := by decide +kernel
theorem dX1_pass_37 : decode cX1_pass 37 = .ok (.iconst 3, 1) := by decide +kernel
theorem dX1_pass_38 : decode cX1_pass 38 = .ok (.invokevirtual 68, 3) := by decide +kernel
theorem dX1_pass_41 : decode cX1_pass 41 = .ok (.iload_n 2, 1) := by decide +kernel
theorem dX1_pass_42 : decode cX1_pass 42 = .ok (.isub, 1) := by decide +kernel
theorem dX1_pass_43 : decode cX1_pass 43 = .ok (.ireturn, 1) := by decide +kernel
theorem dX1_minute_0 : decode cX1_minute 0 = .ok (.aload_n 0, 1) := by decide +kernel
theorem dX1_minute_1 : decode cX1_minute 1 = .ok (.getfield 10, 3) := by decide +kernel
theorem dX1_minute_4 : decode cX1_minute 4 = .ok (.getfield 75, 3) := by decide +kernel
theorem dX1_minute_7 : decode cX1_minute 7 = .ok (.ireturn, 1) := by decide +kernel
theorem dX1_travellers_0 : decode cX1_travellers 0 = .ok (.aload_n 0, 1) := by decide +kernel
theorem dX1_travellers_1 : decode cX1_travellers 1 = .ok (.getfield 10, 3) := by decide +kernel
theorem dX1_travellers_4 : decode cX1_travellers 4 = .ok (.getfield 40, 3) := by decide +kernel
theorem dX1_travellers_7 : decode cX1_travellers 7 = .ok (.ireturn, 1) := by decide +kernel
set_option maxRecDepth 20000 in
theorem ggX1_waiting_X0_countIn : GoodIn wsX1_waiting wsX0_countIn := goodIn_r _ [6, 7, 8, 11, 12, 13, 14, 15, 16, 17, 18, 19, 20, 21, 22, 23, 24, 25] (by decide +kernel) (by decide +kernel)
set_option maxRecDepth 20000 in
theorem gX1_waiting_X0_countIn : GoodIn wsX1_waiting (wsV RX1 68 RX0 yX0_countIn wsX0_countIn) := goodIn_app (goodIn_of _ (by decide +kernel)) ggX1_waiting_X0_countIn
theorem dX1_waiting_0 : decode cX1_waiting 0 = .ok (.aload_n 0, 1) := by decide +kernel
theorem dX1_waiting_1 : decode cX1_waiting 1 = .ok (.getfield 10, 3) := by decide +kernel
theorem dX1_waiting_4 : decode cX1_waiting 4 = .ok (.iconst 0, 1) := by decide +kernel
theorem dX1_waiting_5 : decode cX1_waiting 5 = .ok (.invokevirtual 68, 3) := by decide +kernel
theorem dX1_waiting_8 : decode cX1_waiting 8 = .ok (.ireturn, 1) := by decide +kernel
set_option maxRecDepth 20000 in
theorem ggX1_asleep_X0_countIn : GoodIn wsX1_asleep wsX0_countIn := goodIn_r _ [6, 7, 8, 11, 12, 13, 14, 15, 16, 17, 18, 19, 20, 21, 22, 23, 24, 25] (by decide +kernel) (by decide +kernel)
set_option maxRecDepth 20000 in
theorem gX1_asleep_X0_countIn : GoodIn wsX1_asleep (wsV RX1 68 RX0 yX0_countIn wsX0_countIn) := goodIn_app (goodIn_of _ (by decide +kernel)) ggX1_asleep_X0_countIn
theorem dX1_asleep_0 : decode cX1_asleep 0 = .ok (.aload_n 0, 1) := by decide +kernel
theorem dX1_asleep_1 : decode cX1_asleep 1 = .ok (.getfield 10, 3) := by decide +kernel
theorem dX1_asleep_4 : decode cX1_asleep 4 = .ok (.iconst 3, 1) := by decide +kernel
theorem dX1_asleep_5 : decode cX1_asleep 5 = .ok (.invokevirtual 68, 3) := by decide +kernel
theorem dX1_asleep_8 : decode cX1_asleep 8 = .ok (.ireturn, 1) := by decide +kernel
set_option maxRecDepth 20000 in
theorem ggX1_sentBack_X0_countIn : GoodIn wsX1_sentBack wsX0_countIn := goodIn_r _ [6, 7, 8, 11, 12, 13, 14, 15, 16, 17, 18, 19, 20, 21, 22, 23, 24, 25] (by decide +kernel) (by decide +kernel)
set_option maxRecDepth 20000 in
theorem gX1_sentBack_X0_countIn : GoodIn wsX1_sentBack (wsV RX1 68 RX0 yX0_countIn wsX0_countIn) := goodIn_app (goodIn_of _ (by decide +kernel)) ggX1_sentBack_X0_countIn
theorem dX1_sentBack_0 : decode cX1_sentBack 0 = .ok (.aload_n 0, 1) := by decide +kernel
theorem dX1_sentBack_1 : decode cX1_sentBack 1 = .ok (.getfield 10, 3) := by decide +kernel
theorem dX1_sentBack_4 : decode cX1_sentBack 4 = .ok (.iconst 4, 1) := by decide +kernel
theorem dX1_sentBack_5 : decode cX1_sentBack 5 = .ok (.invokevirtual 68, 3) := by decide +kernel
theorem dX1_sentBack_8 : decode cX1_sentBack 8 = .ok (.ireturn, 1) := by decide +kernel
theorem dX1_expired_0 : decode cX1_expired 0 = .ok (.aload_n 0, 1) := by decide +kernel
theorem dX1_expired_1 : decode cX1_expired 1 = .ok (.getfield 10, 3) := by decide +kernel
theorem dX1_expired_4 : decode cX1_expired 4 = .ok (.getfield 78, 3) := by decide +kernel
theorem dX1_expired_7 : decode cX1_expired 7 = .ok (.ireturn, 1) := by decide +kernel
theorem dX1_paid_0 : decode cX1_paid 0 = .ok (.aload_n 0, 1) := by decide +kernel
theorem dX1_paid_1 : decode cX1_paid 1 = .ok (.getfield 10, 3) := by decide +kernel
theorem dX1_paid_4 : decode cX1_paid 4 = .ok (.getfield 81, 3) := by decide +kernel
theorem dX1_paid_7 : decode cX1_paid 7 = .ok (.ireturn, 1) := by decide +kernel
set_option maxRecDepth 20000 in
theorem ggX1_noise_X0_addedSnores : GoodIn wsX1_noise wsX0_addedSnores := goodIn_r _ [6, 7, 8, 9, 12, 13, 14, 15, 16, 17, 18, 19, 20, 21, 22, 23, 24, 25, 26] (by decide +kernel) (by decide +kernel)
set_option maxRecDepth 20000 in
theorem gX1_noise_X0_addedSnores : GoodIn wsX1_noise (wsV RX1 84 RX0 yX0_addedSnores wsX0_addedSnores) := goodIn_app (goodIn_of _ (by decide +kernel)) ggX1_noise_X0_addedSnores
theorem dX1_noise_0 : decode cX1_noise 0 = .ok (.aload_n 0, 1) := by decide +kernel
theorem dX1_noise_1 : decode cX1_noise 1 = .ok (.getfield 10, 3) := by decide +kernel
theorem dX1_noise_4 : decode cX1_noise 4 = .ok (.invokevirtual 84, 3) := by decide +kernel
theorem dX1_noise_7 : decode cX1_noise 7 = .ok (.ireturn, 1) := by decide +kernel
set_option maxRecDepth 20000 in
theorem ggX1_nextInLine_X0_firstWaiting : GoodIn wsX1_nextInLine wsX0_firstWaiting := goodIn_r _ [6, 7, 8, 11, 12, 13, 14, 15, 16, 17, 18, 19, 20, 21, 22, 23, 24, 25] (by decide +kernel) (by decide +kernel)
set_option maxRecDepth 20000 in
theorem gX1_nextInLine_X0_firstWaiting : GoodIn wsX1_nextInLine (wsV RX1 88 RX0 yX0_firstWaiting wsX0_firstWaiting) := goodIn_app (goodIn_of _ (by decide +kernel)) ggX1_nextInLine_X0_firstWaiting
theorem dX1_nextInLine_0 : decode cX1_nextInLine 0 = .ok (.aload_n 0, 1) := by decide +kernel
theorem dX1_nextInLine_1 : decode cX1_nextInLine 1 = .ok (.getfield 10, 3) := by decide +kernel
theorem dX1_nextInLine_4 : decode cX1_nextInLine 4 = .ok (.invokevirtual 88, 3) := by decide +kernel
theorem dX1_nextInLine_7 : decode cX1_nextInLine 7 = .ok (.ireturn, 1) := by decide +kernel
set_option maxRecDepth 20000 in
theorem ggX1_stateOf_X1_requireTraveller : GoodIn wsX1_stateOf wsX1_requireTraveller := goodIn_ca (goodIn_r _ [7, 8, 9, 1, 10, 11, 12, 13, 14, 15, 16, 17, 18, 19, 20, 21, 22, 23, 24, 25, 26, 27, 28, 29, 30, 31, 32] (by decide +kernel) (by decide +kernel)) (goodIn_sub (fun _ h => List.mem_cons_of_mem _ (List.mem_append_right _ h)) (by decide +kernel))
set_option maxRecDepth 20000 in
theorem gX1_stateOf_X1_requireTraveller : GoodIn wsX1_stateOf (wsV RX1 49 RX1 yX1_requireTraveller wsX1_requireTraveller) := goodIn_app (goodIn_of _ (by decide +kernel)) ggX1_stateOf_X1_requireTraveller
theorem dX1_stateOf_0 : decode cX1_stateOf 0 = .ok (.aload_n 0, 1) := by decide +kernel
theorem dX1_stateOf_1 : decode cX1_stateOf 1 = .ok (.iload_n 1, 1) := by decide +kernel
theorem dX1_stateOf_2 : decode cX1_stateOf 2 = .ok (.invokevirtual 49, 3) := by decide +kernel
theorem dX1_stateOf_5 : decode cX1_stateOf 5 = .ok (.aload_n 0, 1) := by decide +kernel
theorem dX1_stateOf_6 : decode cX1_stateOf 6 = .ok (.getfield 10, 3) := by decide +kernel
theorem dX1_stateOf_9 : decode cX1_stateOf 9 = .ok (.getfield 91, 3) := by decide +kernel
theorem dX1_stateOf_12 : decode cX1_stateOf 12 = .ok (.iload_n 1, 1) := by decide +kernel
theorem dX1_stateOf_13 : decode cX1_stateOf 13 = .ok (.iaload, 1) := by decide +kernel
theorem dX1_stateOf_14 : decode cX1_stateOf 14 = .ok (.ireturn, 1) := by decide +kernel
set_option maxRecDepth 20000 in
theorem ggX1_hiddenOf_X1_requireTraveller : GoodIn wsX1_hiddenOf wsX1_requireTraveller := goodIn_ca (goodIn_r _ [6, 7, 8, 1, 9, 10, 11, 12, 13, 14, 21, 22, 23, 24, 25, 26, 27, 28, 29, 30, 31, 32, 33, 34, 35, 36, 37] (by decide +kernel) (by decide +kernel)) (goodIn_sub (fun _ h => List.mem_cons_of_mem _ (List.mem_append_right _ h)) (by decide +kernel))
set_option maxRecDepth 20000 in
theorem gX1_hiddenOf_X1_requireTraveller : GoodIn wsX1_hiddenOf (wsV RX1 49 RX1 yX1_requireTraveller wsX1_requireTraveller) := goodIn_app (goodIn_of _ (by decide +kernel)) ggX1_hiddenOf_X1_requireTraveller
set_option maxRecDepth 20000 in
theorem ggX1_hiddenOf_X0_hiddenDreams : GoodIn wsX1_hiddenOf wsX0_hiddenDreams := goodIn_r _ [18, 19, 20, 23, 24, 25, 26, 27, 28, 29, 30, 31, 32, 33, 34, 35, 36, 37] (by decide +kernel) (by decide +kernel)
set_option maxRecDepth 20000 in
theorem gX1_hiddenOf_X0_hiddenDreams : GoodIn wsX1_hiddenOf (wsV RX1 94 RX0 yX0_hiddenDreams wsX0_hiddenDreams) := goodIn_app (goodIn_of _ (by decide +kernel)) ggX1_hiddenOf_X0_hiddenDreams
theorem dX1_hiddenOf_0 : decode cX1_hiddenOf 0 = .ok (.aload_n 0, 1) := by decide +kernel
theorem dX1_hiddenOf_1 : decode cX1_hiddenOf 1 = .ok (.iload_n 1, 1) := by decide +kernel
theorem dX1_hiddenOf_2 : decode cX1_hiddenOf 2 = .ok (.invokevirtual 49, 3) := by decide +kernel
theorem dX1_hiddenOf_5 : decode cX1_hiddenOf 5 = .ok (.aload_n 0, 1) := by decide +kernel
theorem dX1_hiddenOf_6 : decode cX1_hiddenOf 6 = .ok (.getfield 10, 3) := by decide +kernel
theorem dX1_hiddenOf_9 : decode cX1_hiddenOf 9 = .ok (.iload_n 1, 1) := by decide +kernel
theorem dX1_hiddenOf_10 : decode cX1_hiddenOf 10 = .ok (.invokevirtual 94, 3) := by decide +kernel
theorem dX1_hiddenOf_13 : decode cX1_hiddenOf 13 = .ok (.ireturn, 1) := by decide +kernel
set_option maxRecDepth 20000 in
theorem ggX1_lullabyOf_X1_requireTraveller : GoodIn wsX1_lullabyOf wsX1_requireTraveller := goodIn_ca (goodIn_r _ [7, 8, 9, 1, 10, 11, 12, 13, 14, 15, 16, 17, 18, 19, 20, 21, 22, 23, 24, 25, 26, 27, 28, 29, 30, 31, 32] (by decide +kernel) (by decide +kernel)) (goodIn_sub (fun _ h => List.mem_cons_of_mem _ (List.mem_append_right _ h)) (by decide +kernel))
set_option maxRecDepth 20000 in
theorem gX1_lullabyOf_X1_requireTraveller : GoodIn wsX1_lullabyOf (wsV RX1 49 RX1 yX1_requireTraveller wsX1_requireTraveller) := goodIn_app (goodIn_of _ (by decide +kernel)) ggX1_lullabyOf_X1_requireTraveller
theorem dX1_lullabyOf_0 : decode cX1_lullabyOf 0 = .ok (.aload_n 0, 1) := by decide +kernel
theorem dX1_lullabyOf_1 : decode cX1_lullabyOf 1 = .ok (.iload_n 1, 1) := by decide +kernel
theorem dX1_lullabyOf_2 : decode cX1_lullabyOf 2 = .ok (.invokevirtual 49, 3) := by decide +kernel
theorem dX1_lullabyOf_5 : decode cX1_lullabyOf 5 = .ok (.aload_n 0, 1) := by decide +kernel
theorem dX1_lullabyOf_6 : decode cX1_lullabyOf 6 = .ok (.getfield 10, 3) := by decide +kernel
theorem dX1_lullabyOf_9 : decode cX1_lullabyOf 9 = .ok (.getfield 59, 3) := by decide +kernel
theorem dX1_lullabyOf_12 : decode cX1_lullabyOf 12 = .ok (.iload_n 1, 1) := by decide +kernel
theorem dX1_lullabyOf_13 : decode cX1_lullabyOf 13 = .ok (.iaload, 1) := by decide +kernel
theorem dX1_lullabyOf_14 : decode cX1_lullabyOf 14 = .ok (.ireturn, 1) := by decide +kernel
set_option maxRecDepth 20000 in
theorem ggX1_placeInLine_X1_requireTraveller : GoodIn wsX1_placeInLine wsX1_requireTraveller := goodIn_ca (goodIn_r _ [7, 8, 9, 1, 10, 11, 12, 13, 14, 15, 21, 22, 23, 24, 25, 26, 27, 28, 29, 30, 31, 32, 33, 34, 35, 36, 37] (by decide +kernel) (by decide +kernel)) (goodIn_sub (fun _ h => List.mem_cons_of_mem _ (List.mem_append_right _ h)) (by decide +kernel))
set_option maxRecDepth 20000 in
theorem gX1_placeInLine_X1_requireTraveller : GoodIn wsX1_placeInLine (wsV RX1 49 RX1 yX1_requireTraveller wsX1_requireTraveller) := goodIn_app (goodIn_of _ (by decide +kernel)) ggX1_placeInLine_X1_requireTraveller
set_option maxRecDepth 20000 in
theorem ggX1_placeInLine_X0_waitingAhead : GoodIn wsX1_placeInLine wsX0_waitingAhead := goodIn_r _ [19, 15, 20, 23, 24, 25, 26, 27, 28, 29, 30, 31, 32, 33, 34, 35, 36, 37] (by decide +kernel) (by decide +kernel)
set_option maxRecDepth 20000 in
theorem gX1_placeInLine_X0_waitingAhead : GoodIn wsX1_placeInLine (wsV RX1 97 RX0 yX0_waitingAhead wsX0_waitingAhead) := goodIn_app (goodIn_of _ (by decide +kernel)) ggX1_placeInLine_X0_waitingAhead
theorem dX1_placeInLine_0 : decode cX1_placeInLine 0 = .ok (.aload_n 0, 1) := by decide +kernel
theorem dX1_placeInLine_1 : decode cX1_placeInLine 1 = .ok (.iload_n 1, 1) := by decide +kernel
theorem dX1_placeInLine_2 : decode cX1_placeInLine 2 = .ok (.invokevirtual 49, 3) := by decide +kernel
theorem dX1_placeInLine_5 : decode cX1_placeInLine 5 = .ok (.aload_n 0, 1) := by decide +kernel
theorem dX1_placeInLine_6 : decode cX1_placeInLine 6 = .ok (.getfield 10, 3) := by decide +kernel
theorem dX1_placeInLine_9 : decode cX1_placeInLine 9 = .ok (.getfield 91, 3) := by decide +kernel
theorem dX1_placeInLine_12 : decode cX1_placeInLine 12 = .ok (.iload_n 1, 1) := by decide +kernel
theorem dX1_placeInLine_13 : decode cX1_placeInLine 13 = .ok (.iaload, 1) := by decide +kernel
theorem dX1_placeInLine_14 : decode cX1_placeInLine 14 = .ok (.ifCond .eq 5, 3) := by decide +kernel
theorem dX1_placeInLine_17 : decode cX1_placeInLine 17 = .ok (.iconst (-1), 1) := by decide +kernel
theorem dX1_placeInLine_18 : decode cX1_placeInLine 18 = .ok (.ireturn, 1) := by decide +kernel
theorem dX1_placeInLine_19 : decode cX1_placeInLine 19 = .ok (.aload_n 0, 1) := by decide +kernel
theorem dX1_placeInLine_20 : decode cX1_placeInLine 20 = .ok (.getfield 10, 3) := by decide +kernel
theorem dX1_placeInLine_23 : decode cX1_placeInLine 23 = .ok (.iload_n 1, 1) := by decide +kernel
theorem dX1_placeInLine_24 : decode cX1_placeInLine 24 = .ok (.invokevirtual 97, 3) := by decide +kernel
theorem dX1_placeInLine_27 : decode cX1_placeInLine 27 = .ok (.ireturn, 1) := by decide +kernel
set_option maxRecDepth 20000 in
theorem ggX1_searchTime_X1_requireTraveller : GoodIn wsX1_searchTime wsX1_requireTraveller := goodIn_ca (goodIn_r _ [6, 7, 8, 1, 9, 10, 11, 12, 13, 14, 26, 27, 28, 29, 30, 31, 32, 33, 34, 35, 36, 37, 38, 39, 40, 41, 42] (by decide +kernel) (by decide +kernel)) (goodIn_sub (fun _ h => List.mem_cons_of_mem _ (List.mem_append_right _ h)) (by decide +kernel))
set_option maxRecDepth 20000 in
theorem gX1_searchTime_X1_requireTraveller : GoodIn wsX1_searchTime (wsV RX1 49 RX1 yX1_requireTraveller wsX1_requireTraveller) := goodIn_app (goodIn_of _ (by decide +kernel)) ggX1_searchTime_X1_requireTraveller
set_option maxRecDepth 20000 in
theorem ggX1_searchTime_X0_searchMinutes : GoodIn wsX1_searchTime wsX0_searchMinutes := goodIn_r _ [18, 19, 20, 21, 22, 12, 23, 14, 24, 25, 28, 29, 30, 31, 32, 33, 34, 35, 36, 37, 38, 39, 40, 41, 42] (by decide +kernel) (by decide +kernel)
set_option maxRecDepth 20000 in
theorem gX1_searchTime_X0_searchMinutes : GoodIn wsX1_searchTime (wsV RX1 100 RX0 yX0_searchMinutes wsX0_searchMinutes) := goodIn_app (goodIn_of _ (by decide +kernel)) ggX1_searchTime_X0_searchMinutes
theorem dX1_searchTime_0 : decode cX1_searchTime 0 = .ok (.aload_n 0, 1) := by decide +kernel
theorem dX1_searchTime_1 : decode cX1_searchTime 1 = .ok (.iload_n 1, 1) := by decide +kernel
theorem dX1_searchTime_2 : decode cX1_searchTime 2 = .ok (.invokevirtual 49, 3) := by decide +kernel
theorem dX1_searchTime_5 : decode cX1_searchTime 5 = .ok (.aload_n 0, 1) := by decide +kernel
theorem dX1_searchTime_6 : decode cX1_searchTime 6 = .ok (.getfield 10, 3) := by decide +kernel
theorem dX1_searchTime_9 : decode cX1_searchTime 9 = .ok (.iload_n 1, 1) := by decide +kernel
theorem dX1_searchTime_10 : decode cX1_searchTime 10 = .ok (.invokevirtual 100, 3) := by decide +kernel
theorem dX1_searchTime_13 : decode cX1_searchTime 13 = .ok (.ireturn, 1) := by decide +kernel
theorem dX1_guards_0 : decode cX1_guards 0 = .ok (.aload_n 0, 1) := by decide +kernel
theorem dX1_guards_1 : decode cX1_guards 1 = .ok (.getfield 10, 3) := by decide +kernel
theorem dX1_guards_4 : decode cX1_guards 4 = .ok (.getfield 19, 3) := by decide +kernel
theorem dX1_guards_7 : decode cX1_guards 7 = .ok (.ireturn, 1) := by decide +kernel
set_option maxRecDepth 20000 in
theorem ggX1_alertnessOf_X1_requireGuard : GoodIn wsX1_alertnessOf wsX1_requireGuard := goodIn_ca (goodIn_r _ [7, 8, 9, 1, 10, 11, 12, 13, 14, 15, 16, 17, 18, 19, 20, 21, 22, 23, 24, 25, 26, 27, 28, 29, 30, 31, 32] (by decide +kernel) (by decide +kernel)) (goodIn_sub (fun _ h => List.mem_cons_of_mem _ (List.mem_append_right _ h)) (by decide +kernel))
set_option maxRecDepth 20000 in
theorem gX1_alertnessOf_X1_requireGuard : GoodIn wsX1_alertnessOf (wsV RX1 62 RX1 yX1_requireGuard wsX1_requireGuard) := goodIn_app (goodIn_of _ (by decide +kernel)) ggX1_alertnessOf_X1_requireGuard
theorem dX1_alertnessOf_0 : decode cX1_alertnessOf 0 = .ok (.aload_n 0, 1) := by decide +kernel
theorem dX1_alertnessOf_1 : decode cX1_alertnessOf 1 = .ok (.iload_n 1, 1) := by decide +kernel
theorem dX1_alertnessOf_2 : decode cX1_alertnessOf 2 = .ok (.invokevirtual 62, 3) := by decide +kernel
theorem dX1_alertnessOf_5 : decode cX1_alertnessOf 5 = .ok (.aload_n 0, 1) := by decide +kernel
theorem dX1_alertnessOf_6 : decode cX1_alertnessOf 6 = .ok (.getfield 10, 3) := by decide +kernel
theorem dX1_alertnessOf_9 : decode cX1_alertnessOf 9 = .ok (.getfield 65, 3) := by decide +kernel
theorem dX1_alertnessOf_12 : decode cX1_alertnessOf 12 = .ok (.iload_n 1, 1) := by decide +kernel
theorem dX1_alertnessOf_13 : decode cX1_alertnessOf 13 = .ok (.iaload, 1) := by decide +kernel
theorem dX1_alertnessOf_14 : decode cX1_alertnessOf 14 = .ok (.ireturn, 1) := by decide +kernel
set_option maxRecDepth 20000 in
theorem ggX1_searches_X1_requireGuard : GoodIn wsX1_searches wsX1_requireGuard := goodIn_ca (goodIn_r _ [7, 8, 9, 1, 10, 11, 12, 13, 14, 15, 16, 17, 18, 19, 20, 21, 22, 23, 24, 25, 26, 27, 28, 29, 30, 31, 32] (by decide +kernel) (by decide +kernel)) (goodIn_sub (fun _ h => List.mem_cons_of_mem _ (List.mem_append_right _ h)) (by decide +kernel))
set_option maxRecDepth 20000 in
theorem gX1_searches_X1_requireGuard : GoodIn wsX1_searches (wsV RX1 62 RX1 yX1_requireGuard wsX1_requireGuard) := goodIn_app (goodIn_of _ (by decide +kernel)) ggX1_searches_X1_requireGuard
theorem dX1_searches_0 : decode cX1_searches 0 = .ok (.aload_n 0, 1) := by decide +kernel
theorem dX1_searches_1 : decode cX1_searches 1 = .ok (.iload_n 1, 1) := by decide +kernel
theorem dX1_searches_2 : decode cX1_searches 2 = .ok (.invokevirtual 62, 3) := by decide +kernel
theorem dX1_searches_5 : decode cX1_searches 5 = .ok (.aload_n 0, 1) := by decide +kernel
theorem dX1_searches_6 : decode cX1_searches 6 = .ok (.getfield 10, 3) := by decide +kernel
theorem dX1_searches_9 : decode cX1_searches 9 = .ok (.getfield 103, 3) := by decide +kernel
theorem dX1_searches_12 : decode cX1_searches 12 = .ok (.iload_n 1, 1) := by decide +kernel
theorem dX1_searches_13 : decode cX1_searches 13 = .ok (.iaload, 1) := by decide +kernel
theorem dX1_searches_14 : decode cX1_searches 14 = .ok (.ireturn, 1) := by decide +kernel
set_option maxRecDepth 20000 in
theorem ggX1_minutesToGo_X1_requireGuard : GoodIn wsX1_minutesToGo wsX1_requireGuard := goodIn_ca (goodIn_r _ [7, 8, 9, 1, 10, 11, 12, 13, 14, 15, 16, 17, 18, 19, 20, 21, 22, 23, 24, 25, 26, 27, 28, 29, 30, 31, 32] (by decide +kernel) (by decide +kernel)) (goodIn_sub (fun _ h => List.mem_cons_of_mem _ (List.mem_append_right _ h)) (by decide +kernel))
set_option maxRecDepth 20000 in
theorem gX1_minutesToGo_X1_requireGuard : GoodIn wsX1_minutesToGo (wsV RX1 62 RX1 yX1_requireGuard wsX1_requireGuard) := goodIn_app (goodIn_of _ (by decide +kernel)) ggX1_minutesToGo_X1_requireGuard
theorem dX1_minutesToGo_0 : decode cX1_minutesToGo 0 = .ok (.aload_n 0, 1) := by decide +kernel
theorem dX1_minutesToGo_1 : decode cX1_minutesToGo 1 = .ok (.iload_n 1, 1) := by decide +kernel
theorem dX1_minutesToGo_2 : decode cX1_minutesToGo 2 = .ok (.invokevirtual 62, 3) := by decide +kernel
theorem dX1_minutesToGo_5 : decode cX1_minutesToGo 5 = .ok (.aload_n 0, 1) := by decide +kernel
theorem dX1_minutesToGo_6 : decode cX1_minutesToGo 6 = .ok (.getfield 10, 3) := by decide +kernel
theorem dX1_minutesToGo_9 : decode cX1_minutesToGo 9 = .ok (.getfield 106, 3) := by decide +kernel
theorem dX1_minutesToGo_12 : decode cX1_minutesToGo 12 = .ok (.iload_n 1, 1) := by decide +kernel
theorem dX1_minutesToGo_13 : decode cX1_minutesToGo 13 = .ok (.iaload, 1) := by decide +kernel
theorem dX1_minutesToGo_14 : decode cX1_minutesToGo 14 = .ok (.ireturn, 1) := by decide +kernel
set_option maxRecDepth 20000 in
theorem ggX1_wouldFind_X1_requireGuard : GoodIn wsX1_wouldFind wsX1_requireGuard := goodIn_ca (goodIn_r _ [6, 7, 8, 1, 9, 10, 11, 12, 13, 14, 35, 36, 37, 38, 39, 40, 41, 42, 43, 44, 45, 46, 47, 48, 49, 50, 51] (by decide +kernel) (by decide +kernel)) (goodIn_sub (fun _ h => List.mem_cons_of_mem _ (List.mem_append_right _ h)) (by decide +kernel))
set_option maxRecDepth 20000 in
theorem gX1_wouldFind_X1_requireGuard : GoodIn wsX1_wouldFind (wsV RX1 62 RX1 yX1_requireGuard wsX1_requireGuard) := goodIn_app (goodIn_of _ (by decide +kernel)) ggX1_wouldFind_X1_requireGuard
set_option maxRecDepth 20000 in
theorem ggX1_wouldFind_X1_requireTraveller : GoodIn wsX1_wouldFind wsX1_requireTraveller := goodIn_ca (goodIn_r _ [18, 7, 8, 1, 19, 20, 21, 12, 22, 23, 35, 36, 37, 38, 39, 40, 41, 42, 43, 44, 45, 46, 47, 48, 49, 50, 51] (by decide +kernel) (by decide +kernel)) (goodIn_sub (fun _ h => List.mem_cons_of_mem _ (List.mem_append_right _ h)) (by decide +kernel))
set_option maxRecDepth 20000 in
theorem gX1_wouldFind_X1_requireTraveller : GoodIn wsX1_wouldFind (wsV RX1 49 RX1 yX1_requireTraveller wsX1_requireTraveller) := goodIn_app (goodIn_of _ (by decide +kernel)) ggX1_wouldFind_X1_requireTraveller
set_option maxRecDepth 20000 in
theorem ggX1_wouldFind_X0_finds : GoodIn wsX1_wouldFind wsX0_finds := goodIn_r _ [27, 28, 29, 30, 31, 12, 32, 33, 34, 37, 38, 39, 40, 41, 42, 43, 44, 45, 46, 47, 48, 49, 50, 51] (by decide +kernel) (by decide +kernel)
set_option maxRecDepth 20000 in
theorem gX1_wouldFind_X0_finds : GoodIn wsX1_wouldFind (wsV RX1 109 RX0 yX0_finds wsX0_finds) := goodIn_app (goodIn_of _ (by decide +kernel)) ggX1_wouldFind_X0_finds
theorem dX1_wouldFind_0 : decode cX1_wouldFind 0 = .ok (.aload_n 0, 1) := by decide +kernel
theorem dX1_wouldFind_1 : decode cX1_wouldFind 1 = .ok (.iload_n 1, 1) := by decide +kernel
theorem dX1_wouldFind_2 : decode cX1_wouldFind 2 = .ok (.invokevirtual 62, 3) := by decide +kernel
theorem dX1_wouldFind_5 : decode cX1_wouldFind 5 = .ok (.aload_n 0, 1) := by decide +kernel
theorem dX1_wouldFind_6 : decode cX1_wouldFind 6 = .ok (.iload_n 2, 1) := by decide +kernel
theorem dX1_wouldFind_7 : decode cX1_wouldFind 7 = .ok (.invokevirtual 49, 3) := by decide +kernel
theorem dX1_wouldFind_10 : decode cX1_wouldFind 10 = .ok (.aload_n 0, 1) := by decide +kernel
theorem dX1_wouldFind_11 : decode cX1_wouldFind 11 = .ok (.getfield 10, 3) := by decide +kernel
theorem dX1_wouldFind_14 : decode cX1_wouldFind 14 = .ok (.iload_n 1, 1) := by decide +kernel
theorem dX1_wouldFind_15 : decode cX1_wouldFind 15 = .ok (.iload_n 2, 1) := by decide +kernel
theorem dX1_wouldFind_16 : decode cX1_wouldFind 16 = .ok (.invokevirtual 109, 3) := by decide +kernel
theorem dX1_wouldFind_19 : decode cX1_wouldFind 19 = .ok (.ireturn, 1) := by decide +kernel
theorem dX1_mostAlert_0 : decode cX1_mostAlert 0 = .ok (.iconst (-1), 1) := by decide +kernel
theorem dX1_mostAlert_1 : decode cX1_mostAlert 1 = .ok (.istore_n 1, 1) := by decide +kernel
theorem dX1_mostAlert_2 : decode cX1_mostAlert 2 = .ok (.iconst (-1), 1) := by decide +kernel
theorem dX1_mostAlert_3 : decode cX1_mostAlert 3 = .ok (.istore_n 2, 1) := by decide +kernel
theorem dX1_mostAlert_4 : decode cX1_mostAlert 4 = .ok (.iconst 0, 1) := by decide +kernel
theorem dX1_mostAlert_5 : decode cX1_mostAlert 5 = .ok (.istore_n 3, 1) := by decide +kernel
theorem dX1_mostAlert_6 : decode cX1_mostAlert 6 = .ok (.iload_n 3, 1) := by decide +kernel
theorem dX1_mostAlert_7 : decode cX1_mostAlert 7 = .ok (.aload_n 0, 1) := by decide +kernel
theorem dX1_mostAlert_8 : decode cX1_mostAlert 8 = .ok (.getfield 10, 3) := by decide +kernel
theorem dX1_mostAlert_11 : decode cX1_mostAlert 11 = .ok (.getfield 19, 3) := by decide +kernel
theorem dX1_mostAlert_14 : decode cX1_mostAlert 14 = .ok (.if_icmp .ge 34, 3) := by decide +kernel
theorem dX1_mostAlert_17 : decode cX1_mostAlert 17 = .ok (.aload_n 0, 1) := by decide +kernel
theorem dX1_mostAlert_18 : decode cX1_mostAlert 18 = .ok (.getfield 10, 3) := by decide +kernel
theorem dX1_mostAlert_21 : decode cX1_mostAlert 21 = .ok (.getfield 65, 3) := by decide +kernel
theorem dX1_mostAlert_24 : decode cX1_mostAlert 24 = .ok (.iload_n 3, 1) := by decide +kernel
theorem dX1_mostAlert_25 : decode cX1_mostAlert 25 = .ok (.iaload, 1) := by decide +kernel
theorem dX1_mostAlert_26 : decode cX1_mostAlert 26 = .ok (.iload_n 2, 1) := by decide +kernel
theorem dX1_mostAlert_27 : decode cX1_mostAlert 27 = .ok (.if_icmp .le 15, 3) := by decide +kernel
theorem dX1_mostAlert_30 : decode cX1_mostAlert 30 = .ok (.iload_n 3, 1) := by decide +kernel
theorem dX1_mostAlert_31 : decode cX1_mostAlert 31 = .ok (.istore_n 1, 1) := by decide +kernel
theorem dX1_mostAlert_32 : decode cX1_mostAlert 32 = .ok (.aload_n 0, 1) := by decide +kernel
theorem dX1_mostAlert_33 : decode cX1_mostAlert 33 = .ok (.getfield 10, 3) := by decide +kernel
theorem dX1_mostAlert_36 : decode cX1_mostAlert 36 = .ok (.getfield 65, 3) := by decide +kernel
theorem dX1_mostAlert_39 : decode cX1_mostAlert 39 = .ok (.iload_n 3, 1) := by decide +kernel
theorem dX1_mostAlert_40 : decode cX1_mostAlert 40 = .ok (.iaload, 1) := by decide +kernel
theorem dX1_mostAlert_41 : decode cX1_mostAlert 41 = .ok (.istore_n 2, 1) := by decide +kernel
theorem dX1_mostAlert_42 : decode cX1_mostAlert 42 = .ok (.iinc 3 1, 3) := by decide +kernel
theorem dX1_mostAlert_45 : decode cX1_mostAlert 45 = .ok (.goto (-39), 3) := by decide +kernel
theorem dX1_mostAlert_48 : decode cX1_mostAlert 48 = .ok (.iload_n 1, 1) := by decide +kernel
theorem dX1_mostAlert_49 : decode cX1_mostAlert 49 = .ok (.ireturn, 1) := by decide +kernel
theorem dX1_meanAlertness_0 : decode cX1_meanAlertness 0 = .ok (.aload_n 0, 1) := by decide +kernel
theorem dX1_meanAlertness_1 : decode cX1_meanAlertness 1 = .ok (.getfield 10, 3) := by decide +kernel
theorem dX1_meanAlertness_4 : decode cX1_meanAlertness 4 = .ok (.getfield 19, 3) := by decide +kernel
theorem dX1_meanAlertness_7 : decode cX1_meanAlertness 7 = .ok (.ifCond .ne 5, 3) := by decide +kernel
theorem dX1_meanAlertness_10 : decode cX1_meanAlertness 10 = .ok (.dconst 0, 1) := by decide +kernel
theorem dX1_meanAlertness_11 : decode cX1_meanAlertness 11 = .ok (.dreturn, 1) := by decide +kernel
theorem dX1_meanAlertness_12 : decode cX1_meanAlertness 12 = .ok (.iconst 0, 1) := by decide +kernel
theorem dX1_meanAlertness_13 : decode cX1_meanAlertness 13 = .ok (.istore_n 1, 1) := by decide +kernel
theorem dX1_meanAlertness_14 : decode cX1_meanAlertness 14 = .ok (.iconst 0, 1) := by decide +kernel
theorem dX1_meanAlertness_15 : decode cX1_meanAlertness 15 = .ok (.istore_n 2, 1) := by decide +kernel
theorem dX1_meanAlertness_16 : decode cX1_meanAlertness 16 = .ok (.iload_n 2, 1) := by decide +kernel
theorem dX1_meanAlertness_17 : decode cX1_meanAlertness 17 = .ok (.aload_n 0, 1) := by decide +kernel
theorem dX1_meanAlertness_18 : decode cX1_meanAlertness 18 = .ok (.getfield 10, 3) := by decide +kernel
theorem dX1_meanAlertness_21 : decode cX1_meanAlertness 21 = .ok (.getfield 19, 3) := by decide +kernel
theorem dX1_meanAlertness_24 : decode cX1_meanAlertness 24 = .ok (.if_icmp .ge 21, 3) := by decide +kernel
theorem dX1_meanAlertness_27 : decode cX1_meanAlertness 27 = .ok (.iload_n 1, 1) := by decide +kernel
theorem dX1_meanAlertness_28 : decode cX1_meanAlertness 28 = .ok (.aload_n 0, 1) := by decide +kernel
theorem dX1_meanAlertness_29 : decode cX1_meanAlertness 29 = .ok (.getfield 10, 3) := by decide +kernel
theorem dX1_meanAlertness_32 : decode cX1_meanAlertness 32 = .ok (.getfield 65, 3) := by decide +kernel
theorem dX1_meanAlertness_35 : decode cX1_meanAlertness 35 = .ok (.iload_n 2, 1) := by decide +kernel
theorem dX1_meanAlertness_36 : decode cX1_meanAlertness 36 = .ok (.iaload, 1) := by decide +kernel
theorem dX1_meanAlertness_37 : decode cX1_meanAlertness 37 = .ok (.iadd, 1) := by decide +kernel
theorem dX1_meanAlertness_38 : decode cX1_meanAlertness 38 = .ok (.istore_n 1, 1) := by decide +kernel
theorem dX1_meanAlertness_39 : decode cX1_meanAlertness 39 = .ok (.iinc 2 1, 3) := by decide +kernel
theorem dX1_meanAlertness_42 : decode cX1_meanAlertness 42 = .ok (.goto (-26), 3) := by decide +kernel
theorem dX1_meanAlertness_45 : decode cX1_meanAlertness 45 = .ok (.iload_n 1, 1) := by decide +kernel
theorem dX1_meanAlertness_46 : decode cX1_meanAlertness 46 = .ok (.i2d, 1) := by decide +kernel
theorem dX1_meanAlertness_47 : decode cX1_meanAlertness 47 = .ok (.aload_n 0, 1) := by decide +kernel
theorem dX1_meanAlertness_48 : decode cX1_meanAlertness 48 = .ok (.getfield 10, 3) := by decide +kernel
theorem dX1_meanAlertness_51 : decode cX1_meanAlertness 51 = .ok (.getfield 19, 3) := by decide +kernel
theorem dX1_meanAlertness_54 : decode cX1_meanAlertness 54 = .ok (.i2d, 1) := by decide +kernel
theorem dX1_meanAlertness_55 : decode cX1_meanAlertness 55 = .ok (.ddiv, 1) := by decide +kernel
theorem dX1_meanAlertness_56 : decode cX1_meanAlertness 56 = .ok (.dreturn, 1) := by decide +kernel
set_option maxRecDepth 20000 in
theorem ggX1_requireTraveller_X0_isTraveller : GoodIn wsX1_requireTraveller wsX0_isTraveller := goodIn_r _ [8, 9, 12, 13, 14, 15, 16, 17, 18, 19, 20, 21, 22, 23, 24, 25, 26] (by decide +kernel) (by decide +kernel)
set_option maxRecDepth 20000 in
theorem gX1_requireTraveller_X0_isTraveller : GoodIn wsX1_requireTraveller (wsV RX1 204 RX0 yX0_isTraveller wsX0_isTraveller) := goodIn_app (goodIn_of _ (by decide +kernel)) ggX1_requireTraveller_X0_isTraveller
theorem dX1_requireTraveller_0 : decode cX1_requireTraveller 0 = .ok (.aload_n 0, 1) := by decide +kernel
theorem dX1_requireTraveller_1 : decode cX1_requireTraveller 1 = .ok (.getfield 10, 3) := by decide +kernel
theorem dX1_requireTraveller_4 : decode cX1_requireTraveller 4 = .ok (.iload_n 1, 1) := by decide +kernel
theorem dX1_requireTraveller_5 : decode cX1_requireTraveller 5 = .ok (.invokevirtual 204, 3) := by decide +kernel
theorem dX1_requireTraveller_8 : decode cX1_requireTraveller 8 = .ok (.ifCond .ne 13, 3) := by decide +kernel
theorem dX1_requireTraveller_11 : decode cX1_requireTraveller 11 = .ok (.new 208, 3) := by decide +kernel
theorem dX1_requireTraveller_14 : decode cX1_requireTraveller 14 = .ok (.dup, 1) := by decide +kernel
theorem dX1_requireTraveller_15 : decode cX1_requireTraveller 15 = .ok (.ldc 210, 2) := by decide +kernel
theorem dX1_requireTraveller_17 : decode cX1_requireTraveller 17 = .ok (.invokespecial 212, 3) := by decide +kernel
theorem dX1_requireTraveller_20 : decode cX1_requireTraveller 20 = .ok (.athrow, 1) := by decide +kernel
theorem dX1_requireTraveller_21 : decode cX1_requireTraveller 21 = .ok (.return_, 1) := by decide +kernel
set_option maxRecDepth 20000 in
theorem ggX1_requireGuard_X0_isGuard : GoodIn wsX1_requireGuard wsX0_isGuard := goodIn_r _ [8, 9, 12, 13, 14, 15, 16, 17, 18, 19, 20, 21, 22, 23, 24, 25, 26] (by decide +kernel) (by decide +kernel)
set_option maxRecDepth 20000 in
theorem gX1_requireGuard_X0_isGuard : GoodIn wsX1_requireGuard (wsV RX1 213 RX0 yX0_isGuard wsX0_isGuard) := goodIn_app (goodIn_of _ (by decide +kernel)) ggX1_requireGuard_X0_isGuard
theorem dX1_requireGuard_0 : decode cX1_requireGuard 0 = .ok (.aload_n 0, 1) := by decide +kernel
theorem dX1_requireGuard_1 : decode cX1_requireGuard 1 = .ok (.getfield 10, 3) := by decide +kernel
theorem dX1_requireGuard_4 : decode cX1_requireGuard 4 = .ok (.iload_n 1, 1) := by decide +kernel
theorem dX1_requireGuard_5 : decode cX1_requireGuard 5 = .ok (.invokevirtual 213, 3) := by decide +kernel
theorem dX1_requireGuard_8 : decode cX1_requireGuard 8 = .ok (.ifCond .ne 13, 3) := by decide +kernel
theorem dX1_requireGuard_11 : decode cX1_requireGuard 11 = .ok (.new 208, 3) := by decide +kernel
theorem dX1_requireGuard_14 : decode cX1_requireGuard 14 = .ok (.dup, 1) := by decide +kernel
theorem dX1_requireGuard_15 : decode cX1_requireGuard 15 = .ok (.ldc 216, 2) := by decide +kernel
theorem dX1_requireGuard_17 : decode cX1_requireGuard 17 = .ok (.invokespecial 212, 3) := by decide +kernel
theorem dX1_requireGuard_20 : decode cX1_requireGuard 20 = .ok (.athrow, 1) := by decide +kernel
theorem dX1_requireGuard_21 : decode cX1_requireGuard 21 = .ok (.return_, 1) := by decide +kernel
theorem dX1_requireDigit_0 : decode cX1_requireDigit 0 = .ok (.iload_n 0, 1) := by decide +kernel
theorem dX1_requireDigit_1 : decode cX1_requireDigit 1 = .ok (.ifCond .lt 9, 3) := by decide +kernel
theorem dX1_requireDigit_4 : decode cX1_requireDigit 4 = .ok (.iload_n 0, 1) := by decide +kernel
theorem dX1_requireDigit_5 : decode cX1_requireDigit 5 = .ok (.bipush 9, 2) := by decide +kernel
theorem dX1_requireDigit_7 : decode cX1_requireDigit 7 = .ok (.if_icmp .le 13, 3) := by decide +kernel
theorem dX1_requireDigit_10 : decode cX1_requireDigit 10 = .ok (.new 218, 3) := by decide +kernel
theorem dX1_requireDigit_13 : decode cX1_requireDigit 13 = .ok (.dup, 1) := by decide +kernel
theorem dX1_requireDigit_14 : decode cX1_requireDigit 14 = .ok (.ldc 220, 2) := by decide +kernel
theorem dX1_requireDigit_16 : decode cX1_requireDigit 16 = .ok (.invokespecial 222, 3) := by decide +kernel
theorem dX1_requireDigit_19 : decode cX1_requireDigit 19 = .ok (.athrow, 1) := by decide +kernel
theorem dX1_requireDigit_20 : decode cX1_requireDigit 20 = .ok (.return_, 1) := by decide +kernel
theorem dX1_requireMinutes_0 : decode cX1_requireMinutes 0 = .ok (.iload_n 0, 1) := by decide +kernel
theorem dX1_requireMinutes_1 : decode cX1_requireMinutes 1 = .ok (.iconst 1, 1) := by decide +kernel
theorem dX1_requireMinutes_2 : decode cX1_requireMinutes 2 = .ok (.if_icmp .lt 9, 3) := by decide +kernel
theorem dX1_requireMinutes_5 : decode cX1_requireMinutes 5 = .ok (.iload_n 0, 1) := by decide +kernel
theorem dX1_requireMinutes_6 : decode cX1_requireMinutes 6 = .ok (.bipush 60, 2) := by decide +kernel
theorem dX1_requireMinutes_8 : decode cX1_requireMinutes 8 = .ok (.if_icmp .le 13, 3) := by decide +kernel
theorem dX1_requireMinutes_11 : decode cX1_requireMinutes 11 = .ok (.new 218, 3) := by decide +kernel
theorem dX1_requireMinutes_14 : decode cX1_requireMinutes 14 = .ok (.dup, 1) := by decide +kernel
theorem dX1_requireMinutes_15 : decode cX1_requireMinutes 15 = .ok (.ldc 223, 2) := by decide +kernel
theorem dX1_requireMinutes_17 : decode cX1_requireMinutes 17 = .ok (.invokespecial 222, 3) := by decide +kernel
theorem dX1_requireMinutes_20 : decode cX1_requireMinutes 20 = .ok (.athrow, 1) := by decide +kernel
theorem dX1_requireMinutes_21 : decode cX1_requireMinutes 21 = .ok (.return_, 1) := by decide +kernel
theorem dX1_requireWaiting_0 : decode cX1_requireWaiting 0 = .ok (.aload_n 0, 1) := by decide +kernel
theorem dX1_requireWaiting_1 : decode cX1_requireWaiting 1 = .ok (.getfield 10, 3) := by decide +kernel
theorem dX1_requireWaiting_4 : decode cX1_requireWaiting 4 = .ok (.getfield 91, 3) := by decide +kernel
theorem dX1_requireWaiting_7 : decode cX1_requireWaiting 7 = .ok (.iload_n 1, 1) := by decide +kernel
theorem dX1_requireWaiting_8 : decode cX1_requireWaiting 8 = .ok (.iaload, 1) := by decide +kernel
theorem dX1_requireWaiting_9 : decode cX1_requireWaiting 9 = .ok (.ifCond .eq 13, 3) := by decide +kernel
theorem dX1_requireWaiting_12 : decode cX1_requireWaiting 12 = .ok (.new 23, 3) := by decide +kernel
theorem dX1_requireWaiting_15 : decode cX1_requireWaiting 15 = .ok (.dup, 1) := by decide +kernel
theorem dX1_requireWaiting_16 : decode cX1_requireWaiting 16 = .ok (.ldc 225, 2) := by decide +kernel
theorem dX1_requireWaiting_18 : decode cX1_requireWaiting 18 = .ok (.invokespecial 27, 3) := by decide +kernel
theorem dX1_requireWaiting_21 : decode cX1_requireWaiting 21 = .ok (.athrow, 1) := by decide +kernel
theorem dX1_requireWaiting_22 : decode cX1_requireWaiting 22 = .ok (.return_, 1) := by decide +kernel
