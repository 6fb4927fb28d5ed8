set_option maxRecDepth 20000 in
theorem ggX1_init_X0_init : GoodIn wsX1_init wsX0_init := goodIn_r _ [10, 11, 2, 3, 12, 13, 14, 15, 16, 17, 18, 19, 20, 21, 22, 23, 24, 25, 26, 27, 28, 29, 30, 31, 32, 33, 34, 35, 36, 37, 38, 39, 40, 41, 42] (by decide +kernel) (by decide +kernel)
set_option maxRecDepth 20000 in
theorem gX1_init_X0_init_n9 : GoodIn wsX1_init (wsX0_init) := ggX1_init_X0_init
theorem dX1_init_0 : decode cX1_init 0 = .ok (.aload_n 0, 1) := by decide +kernel
theorem dX1_init_1 : decode cX1_init 1 = .ok (.invokespecial 1, 3) := by decide +kernel
theorem dX1_init_4 : decode cX1_init 4 = .ok (.aload_n 0, 1) := by decide +kernel
theorem dX1_init_5 : decode cX1_init 5 = .ok (.new 7, 3) := by decide +kernel
theorem dX1_init_8 : decode cX1_init 8 = .ok (.dup, 1) := by decide +kernel
theorem dX1_init_9 : decode cX1_init 9 = .ok (.invokespecial 9, 3) := by decide +kernel
theorem dX1_init_12 : decode cX1_init 12 = .ok (.putfield 10, 3) := by decide +kernel
theorem dX1_init_15 : decode cX1_init 15 = .ok (.aload_n 0, 1) := by decide +kernel
theorem dX1_init_16 : decode cX1_init 16 = .ok (.new 7, 3) := by decide +kernel
theorem dX1_init_19 : decode cX1_init 19 = .ok (.dup, 1) := by decide +kernel
theorem dX1_init_20 : decode cX1_init 20 = .ok (.invokespecial 9, 3) := by decide +kernel
theorem dX1_init_23 : decode cX1_init 23 = .ok (.putfield 16, 3) := by decide +kernel
theorem dX1_init_26 : decode cX1_init 26 = .ok (.return_, 1) := by decide +kernel
set_option maxRecDepth 20000 in
theorem ggX1_addGuard_X0_admitGuard : GoodIn wsX1_addGuard wsX0_admitGuard := goodIn_r _ [9, 10, 11, 12, 13, 16, 17, 18, 19, 20, 21, 22, 23, 24, 25, 26, 27, 28, 29, 30] (by decide +kernel) (by decide +kernel)
set_option maxRecDepth 20000 in
theorem gX1_addGuard_X0_admitGuard : GoodIn wsX1_addGuard (wsV RX1 30 RX0 yX0_admitGuard wsX0_admitGuard) := goodIn_app (goodIn_of _ (by decide +kernel)) ggX1_addGuard_X0_admitGuard
theorem dX1_addGuard_0 : decode cX1_addGuard 0 = .ok (.aload_n 0, 1) := by decide +kernel
theorem dX1_addGuard_1 : decode cX1_addGuard 1 = .ok (.getfield 10, 3) := by decide +kernel
theorem dX1_addGuard_4 : decode cX1_addGuard 4 = .ok (.getfield 19, 3) := by decide +kernel
theorem dX1_addGuard_7 : decode cX1_addGuard 7 = .ok (.iconst 4, 1) := by decide +kernel
theorem dX1_addGuard_8 : decode cX1_addGuard 8 = .ok (.if_icmp .lt 13, 3) := by decide +kernel
theorem dX1_addGuard_11 : decode cX1_addGuard 11 = .ok (.new 23, 3) := by decide +kernel
theorem dX1_addGuard_14 : decode cX1_addGuard 14 = .ok (.dup, 1) := by decide +kernel
theorem dX1_addGuard_15 : decode cX1_addGuard 15 = .ok (.ldc 25, 2) := by decide +kernel
theorem dX1_addGuard_17 : decode cX1_addGuard 17 = .ok (.invokespecial 27, 3) := by decide +kernel
theorem dX1_addGuard_20 : decode cX1_addGuard 20 = .ok (.athrow, 1) := by decide +kernel
theorem dX1_addGuard_21 : decode cX1_addGuard 21 = .ok (.aload_n 0, 1) := by decide +kernel
theorem dX1_addGuard_22 : decode cX1_addGuard 22 = .ok (.getfield 10, 3) := by decide +kernel
theorem dX1_addGuard_25 : decode cX1_addGuard 25 = .ok (.invokevirtual 30, 3) := by decide +kernel
theorem dX1_addGuard_28 : decode cX1_addGuard 28 = .ok (.aload_n 0, 1) := by decide +kernel
theorem dX1_addGuard_29 : decode cX1_addGuard 29 = .ok (.getfield 10, 3) := by decide +kernel
theorem dX1_addGuard_32 : decode cX1_addGuard 32 = .ok (.getfield 19, 3) := by decide +kernel
theorem dX1_addGuard_35 : decode cX1_addGuard 35 = .ok (.iconst 1, 1) := by decide +kernel
theorem dX1_addGuard_36 : decode cX1_addGuard 36 = .ok (.isub, 1) := by decide +kernel
theorem dX1_addGuard_37 : decode cX1_addGuard 37 = .ok (.ireturn, 1) := by decide +kernel
set_option maxRecDepth 20000 in
theorem ggX1_arrive_X1_requireDigit : GoodIn wsX1_arrive wsX1_requireDigit := goodIn_ca (goodIn_r _ [8, 9, 10] (by decide +kernel) (by decide +kernel)) (goodIn_sub (fun _ h => List.mem_cons_of_mem _ (List.mem_append_right _ h)) (by decide +kernel))
set_option maxRecDepth 20000 in
theorem gX1_arrive_X1_requireDigit : GoodIn wsX1_arrive (va_wsS RX1 33 yX1_requireDigit wsX1_requireDigit) := goodIn_app (goodIn_of _ (by decide +kernel)) ggX1_arrive_X1_requireDigit
set_option maxRecDepth 20000 in
theorem ggX1_arrive_X1_requireMinutes : GoodIn wsX1_arrive wsX1_requireMinutes := goodIn_ca (goodIn_r _ [13, 9, 10] (by decide +kernel) (by decide +kernel)) (goodIn_sub (fun _ h => List.mem_cons_of_mem _ (List.mem_append_right _ h)) (by decide +kernel))
set_option maxRecDepth 20000 in
theorem gX1_arrive_X1_requireMinutes : GoodIn wsX1_arrive (va_wsS RX1 37 yX1_requireMinutes wsX1_requireMinutes) := goodIn_app (goodIn_of _ (by decide +kernel)) ggX1_arrive_X1_requireMinutes
set_option maxRecDepth 20000 in
theorem ggX1_arrive_X0_admitTraveller : GoodIn wsX1_arrive wsX0_admitTraveller := goodIn_r _ [18, 19, 20, 21, 22, 23, 24, 27, 28, 29, 30, 31, 32, 33, 34, 35, 36, 37, 38, 39, 40, 41] (by decide +kernel) (by decide +kernel)
set_option maxRecDepth 20000 in
theorem gX1_arrive_X0_admitTraveller : GoodIn wsX1_arrive (wsV RX1 45 RX0 yX0_admitTraveller wsX0_admitTraveller) := goodIn_app (goodIn_of _ (by decide +kernel)) ggX1_arrive_X0_admitTraveller
theorem dX1_arrive_0 : decode cX1_arrive 0 = .ok (.iload_n 1, 1) := by decide +kernel
theorem dX1_arrive_1 : decode cX1_arrive 1 = .ok (.invokestatic 33, 3) := by decide +kernel
theorem dX1_arrive_4 : decode cX1_arrive 4 = .ok (.iload_n 2, 1) := by decide +kernel
theorem dX1_arrive_5 : decode cX1_arrive 5 = .ok (.invokestatic 33, 3) := by decide +kernel
theorem dX1_arrive_8 : decode cX1_arrive 8 = .ok (.iload_n 3, 1) := by decide +kernel
theorem dX1_arrive_9 : decode cX1_arrive 9 = .ok (.invokestatic 33, 3) := by decide +kernel
theorem dX1_arrive_12 : decode cX1_arrive 12 = .ok (.iload 4, 2) := by decide +kernel
theorem dX1_arrive_14 : decode cX1_arrive 14 = .ok (.invokestatic 37, 3) := by decide +kernel
theorem dX1_arrive_17 : decode cX1_arrive 17 = .ok (.aload_n 0, 1) := by decide +kernel
theorem dX1_arrive_18 : decode cX1_arrive 18 = .ok (.getfield 10, 3) := by decide +kernel
theorem dX1_arrive_21 : decode cX1_arrive 21 = .ok (.getfield 40, 3) := by decide +kernel
theorem dX1_arrive_24 : decode cX1_arrive 24 = .ok (.bipush 24, 2) := by decide +kernel
theorem dX1_arrive_26 : decode cX1_arrive 26 = .ok (.if_icmp .lt 13, 3) := by decide +kernel
theorem dX1_arrive_29 : decode cX1_arrive 29 = .ok (.new 23, 3) := by decide +kernel
theorem dX1_arrive_32 : decode cX1_arrive 32 = .ok (.dup, 1) := by decide +kernel
theorem dX1_arrive_33 : decode cX1_arrive 33 = .ok (.ldc 43, 2) := by decide +kernel
theorem dX1_arrive_35 : decode cX1_arrive 35 = .ok (.invokespecial 27, 3) := by decide +kernel
theorem dX1_arrive_38 : decode cX1_arrive 38 = .ok (.athrow, 1) := by decide +kernel
theorem dX1_arrive_39 : decode cX1_arrive 39 = .ok (.aload_n 0, 1) := by decide +kernel
theorem dX1_arrive_40 : decode cX1_arrive 40 = .ok (.getfield 10, 3) := by decide +kernel
theorem dX1_arrive_43 : decode cX1_arrive 43 = .ok (.iload_n 1, 1) := by decide +kernel
theorem dX1_arrive_44 : decode cX1_arrive 44 = .ok (.iload_n 2, 1) := by decide +kernel
theorem dX1_arrive_45 : decode cX1_arrive 45 = .ok (.iload_n 3, 1) := by decide +kernel
theorem dX1_arrive_46 : decode cX1_arrive 46 = .ok (.iload 4, 2) := by decide +kernel
theorem dX1_arrive_48 : decode cX1_arrive 48 = .ok (.invokevirtual 45, 3) := by decide +kernel
theorem dX1_arrive_51 : decode cX1_arrive 51 = .ok (.aload_n 0, 1) := by decide +kernel
theorem dX1_arrive_52 : decode cX1_arrive 52 = .ok (.getfield 10, 3) := by decide +kernel
theorem dX1_arrive_55 : decode cX1_arrive 55 = .ok (.getfield 40, 3) := by decide +kernel
theorem dX1_arrive_58 : decode cX1_arrive 58 = .ok (.iconst 1, 1) := by decide +kernel
theorem dX1_arrive_59 : decode cX1_arrive 59 = .ok (.isub, 1) := by decide +kernel
theorem dX1_arrive_60 : decode cX1_arrive 60 = .ok (.ireturn, 1) := by decide +kernel
set_option maxRecDepth 20000 in
theorem ggX1_declare_X1_requireTraveller : GoodIn wsX1_declare wsX1_requireTraveller := goodIn_ca (goodIn_r _ [7, 8, 9, 1, 10, 11, 12, 13, 14, 15, 28, 29, 30, 31, 32, 33, 34, 35, 36, 37, 38, 39, 40, 41, 42, 43, 44] (by decide +kernel) (by decide +kernel)) (goodIn_sub (fun _ h => List.mem_cons_of_mem _ (List.mem_append_left _ (List.mem_append_left _ (List.mem_append_right _ h)))) (by decide +kernel))
set_option maxRecDepth 20000 in
theorem gX1_declare_X1_requireTraveller : GoodIn wsX1_declare (wsV RX1 49 RX1 yX1_requireTraveller wsX1_requireTraveller) := goodIn_app (goodIn_of _ (by decide +kernel)) ggX1_declare_X1_requireTraveller
set_option maxRecDepth 20000 in
theorem ggX1_declare_X1_requireDigit : GoodIn wsX1_declare wsX1_requireDigit := goodIn_ca (goodIn_r _ [18, 19, 20] (by decide +kernel) (by decide +kernel)) (goodIn_sub (fun _ h => List.mem_cons_of_mem _ (List.mem_append_left _ (List.mem_append_right _ h))) (by decide +kernel))
set_option maxRecDepth 20000 in
theorem gX1_declare_X1_requireDigit : GoodIn wsX1_declare (va_wsS RX1 33 yX1_requireDigit wsX1_requireDigit) := goodIn_app (goodIn_of _ (by decide +kernel)) ggX1_declare_X1_requireDigit
set_option maxRecDepth 20000 in
theorem ggX1_declare_X1_requireWaiting : GoodIn wsX1_declare wsX1_requireWaiting := goodIn_ca (goodIn_r _ [24, 25, 26, 1, 27, 28, 29, 30, 31, 32, 33, 34, 35, 36, 37, 38, 39, 40, 41, 42, 43, 44] (by decide +kernel) (by decide +kernel)) (goodIn_sub (fun _ h => List.mem_cons_of_mem _ (List.mem_append_right _ h)) (by decide +kernel))
set_option maxRecDepth 20000 in
theorem gX1_declare_X1_requireWaiting : GoodIn wsX1_declare (wsV RX1 52 RX1 yX1_requireWaiting wsX1_requireWaiting) := goodIn_app (goodIn_of _ (by decide +kernel)) ggX1_declare_X1_requireWaiting
theorem dX1_declare_0 : decode cX1_declare 0 = .ok (.aload_n 0, 1) := by decide +kernel
theorem dX1_declare_1 : decode cX1_declare 1 = .ok (.iload_n 1, 1) := by decide +kernel
theorem dX1_declare_2 : decode cX1_declare 2 = .ok (.invokevirtual 49, 3) := by decide +kernel
theorem dX1_declare_5 : decode cX1_declare 5 = .ok (.iload_n 2, 1) := by decide +kernel
theorem dX1_declare_6 : decode cX1_declare 6 = .ok (.invokestatic 33, 3) := by decide +kernel
theorem dX1_declare_9 : decode cX1_declare 9 = .ok (.aload_n 0, 1) := by decide +kernel
theorem dX1_declare_10 : decode cX1_declare 10 = .ok (.iload_n 1, 1) := by decide +kernel
theorem dX1_declare_11 : decode cX1_declare 11 = .ok (.invokevirtual 52, 3) := by decide +kernel
theorem dX1_declare_14 : decode cX1_declare 14 = .ok (.aload_n 0, 1) := by decide +kernel
theorem dX1_declare_15 : decode cX1_declare 15 = .ok (.getfield 10, 3) := by decide +kernel
theorem dX1_declare_18 : decode cX1_declare 18 = .ok (.getfield 55, 3) := by decide +kernel
theorem dX1_declare_21 : decode cX1_declare 21 = .ok (.iload_n 1, 1) := by decide +kernel
theorem dX1_declare_22 : decode cX1_declare 22 = .ok (.iaload, 1) := by decide +kernel
theorem dX1_declare_23 : decode cX1_declare 23 = .ok (.istore_n 3, 1) := by decide +kernel
theorem dX1_declare_24 : decode cX1_declare 24 = .ok (.aload_n 0, 1) := by decide +kernel
theorem dX1_declare_25 : decode cX1_declare 25 = .ok (.getfield 10, 3) := by decide +kernel
theorem dX1_declare_28 : decode cX1_declare 28 = .ok (.getfield 55, 3) := by decide +kernel
theorem dX1_declare_31 : decode cX1_declare 31 = .ok (.iload_n 1, 1) := by decide +kernel
theorem dX1_declare_32 : decode cX1_declare 32 = .ok (.iload_n 2, 1) := by decide +kernel
theorem dX1_declare_33 : decode cX1_declare 33 = .ok (.iastore, 1) := by decide +kernel
theorem dX1_declare_34 : decode cX1_declare 34 = .ok (.iload_n 3, 1) := by decide +kernel
theorem dX1_declare_35 : decode cX1_declare 35 = .ok (.ireturn, 1) := by decide +kernel
set_option maxRecDepth 20000 in
theorem ggX1_sing_X1_requireTraveller : GoodIn wsX1_sing wsX1_requireTraveller := goodIn_ca (goodIn_r _ [7, 8, 9, 1, 10, 11, 12, 13, 14, 15, 28, 29, 30, 31, 32, 33, 34, 35, 36, 37, 38, 39, 40, 41, 42, 43, 44] (by decide +kernel) (by decide +kernel)) (goodIn_sub (fun _ h => List.mem_cons_of_mem _ (List.mem_append_left _ (List.mem_append_left _ (List.mem_append_right _ h)))) (by decide +kernel))
set_option maxRecDepth 20000 in
theorem gX1_sing_X1_requireTraveller : GoodIn wsX1_sing (wsV RX1 49 RX1 yX1_requireTraveller wsX1_requireTraveller) := goodIn_app (goodIn_of _ (by decide +kernel)) ggX1_sing_X1_requireTraveller
set_option maxRecDepth 20000 in
theorem ggX1_sing_X1_requireMinutes : GoodIn wsX1_sing wsX1_requireMinutes := goodIn_ca (goodIn_r _ [18, 19, 20] (by decide +kernel) (by decide +kernel)) (goodIn_sub (fun _ h => List.mem_cons_of_mem _ (List.mem_append_left _ (List.mem_append_right _ h))) (by decide +kernel))
set_option maxRecDepth 20000 in
theorem gX1_sing_X1_requireMinutes : GoodIn wsX1_sing (va_wsS RX1 37 yX1_requireMinutes wsX1_requireMinutes) := goodIn_app (goodIn_of _ (by decide +kernel)) ggX1_sing_X1_requireMinutes
set_option maxRecDepth 20000 in
theorem ggX1_sing_X1_requireWaiting : GoodIn wsX1_sing wsX1_requireWaiting := goodIn_ca (goodIn_r _ [24, 25, 26, 1, 27, 28, 29, 30, 31, 32, 33, 34, 35, 36, 37, 38, 39, 40, 41, 42, 43, 44] (by decide +kernel) (by decide +kernel)) (goodIn_sub (fun _ h => List.mem_cons_of_mem _ (List.mem_append_right _ h)) (by decide +kernel))
set_option maxRecDepth 20000 in
theorem gX1_sing_X1_requireWaiting : GoodIn wsX1_sing (wsV RX1 52 RX1 yX1_requireWaiting wsX1_requireWaiting) := goodIn_app (goodIn_of _ (by decide +kernel)) ggX1_sing_X1_requireWaiting
theorem dX1_sing_0 : decode cX1_sing 0 = .ok (.aload_n 0, 1) := by decide +kernel
theorem dX1_sing_1 : decode cX1_sing 1 = .ok (.iload_n 1, 1) := by decide +kernel
theorem dX1_sing_2 : decode cX1_sing 2 = .ok (.invokevirtual 49, 3) := by decide +kernel
theorem dX1_sing_5 : decode cX1_sing 5 = .ok (.iload_n 2, 1) := by decide +kernel
theorem dX1_sing_6 : decode cX1_sing 6 = .ok (.invokestatic 37, 3) := by decide +kernel
theorem dX1_sing_9 : decode cX1_sing 9 = .ok (.aload_n 0, 1) := by decide +kernel
theorem dX1_sing_10 : decode cX1_sing 10 = .ok (.iload_n 1, 1) := by decide +kernel
theorem dX1_sing_11 : decode cX1_sing 11 = .ok (.invokevirtual 52, 3) := by decide +kernel
theorem dX1_sing_14 : decode cX1_sing 14 = .ok (.aload_n 0, 1) := by decide +kernel
theorem dX1_sing_15 : decode cX1_sing 15 = .ok (.getfield 10, 3) := by decide +kernel
theorem dX1_sing_18 : decode cX1_sing 18 = .ok (.getfield 59, 3) := by decide +kernel
theorem dX1_sing_21 : decode cX1_sing 21 = .ok (.iload_n 1, 1) := by decide +kernel
theorem dX1_sing_22 : decode cX1_sing 22 = .ok (.iaload, 1) := by decide +kernel
theorem dX1_sing_23 : decode cX1_sing 23 = .ok (.istore_n 3, 1) := by decide +kernel
theorem dX1_sing_24 : decode cX1_sing 24 = .ok (.aload_n 0, 1) := by decide +kernel
theorem dX1_sing_25 : decode cX1_sing 25 = .ok (.getfield 10, 3) := by decide +kernel
theorem dX1_sing_28 : decode cX1_sing 28 = .ok (.getfield 59, 3) := by decide +kernel
theorem dX1_sing_31 : decode cX1_sing 31 = .ok (.iload_n 1, 1) := by decide +kernel
theorem dX1_sing_32 : decode cX1_sing 32 = .ok (.iload_n 2, 1) := by decide +kernel
theorem dX1_sing_33 : decode cX1_sing 33 = .ok (.iastore, 1) := by decide +kernel
theorem dX1_sing_34 : decode cX1_sing 34 = .ok (.iload_n 3, 1) := by decide +kernel
theorem dX1_sing_35 : decode cX1_sing 35 = .ok (.ireturn, 1) := by decide +kernel
set_option maxRecDepth 20000 in
theorem ggX1_wake_X1_requireGuard : GoodIn wsX1_wake wsX1_requireGuard := goodIn_ca (goodIn_r _ [7, 8, 9, 1, 10, 11, 12, 13, 14, 15, 16, 17, 18, 19, 20, 21, 22, 23, 24, 25, 26, 27, 28, 29, 30, 31, 32] (by decide +kernel) (by decide +kernel)) (goodIn_sub (fun _ h => List.mem_cons_of_mem _ (List.mem_append_right _ h)) (by decide +kernel))
set_option maxRecDepth 20000 in
theorem gX1_wake_X1_requireGuard : GoodIn wsX1_wake (wsV RX1 62 RX1 yX1_requireGuard wsX1_requireGuard) := goodIn_app (goodIn_of _ (by decide +kernel)) ggX1_wake_X1_requireGuard
theorem dX1_wake_0 : decode cX1_wake 0 = .ok (.aload_n 0, 1) := by decide +kernel
theorem dX1_wake_1 : decode cX1_wake 1 = .ok (.iload_n 1, 1) := by decide +kernel
theorem dX1_wake_2 : decode cX1_wake 2 = .ok (.invokevirtual 62, 3) := by decide +kernel
theorem dX1_wake_5 : decode cX1_wake 5 = .ok (.aload_n 0, 1) := by decide +kernel
theorem dX1_wake_6 : decode cX1_wake 6 = .ok (.getfield 10, 3) := by decide +kernel
theorem dX1_wake_9 : decode cX1_wake 9 = .ok (.getfield 65, 3) := by decide +kernel
theorem dX1_wake_12 : decode cX1_wake 12 = .ok (.iload_n 1, 1) := by decide +kernel
theorem dX1_wake_13 : decode cX1_wake 13 = .ok (.iaload, 1) := by decide +kernel
theorem dX1_wake_14 : decode cX1_wake 14 = .ok (.istore_n 2, 1) := by decide +kernel
theorem dX1_wake_15 : decode cX1_wake 15 = .ok (.aload_n 0, 1) := by decide +kernel
theorem dX1_wake_16 : decode cX1_wake 16 = .ok (.getfield 10, 3) := by decide +kernel
theorem dX1_wake_19 : decode cX1_wake 19 = .ok (.getfield 65, 3) := by decide +kernel
theorem dX1_wake_22 : decode cX1_wake 22 = .ok (.iload_n 1, 1) := by decide +kernel
theorem dX1_wake_23 : decode cX1_wake 23 = .ok (.bipush 9, 2) := by decide +kernel
theorem dX1_wake_25 : decode cX1_wake 25 = .ok (.iastore, 1) := by decide +kernel
theorem dX1_wake_26 : decode cX1_wake 26 = .ok (.iload_n 2, 1) := by decide +kernel
theorem dX1_wake_27 : decode cX1_wake 27 = .ok (.ireturn, 1) := by decide +kernel
set_option maxRecDepth 20000 in
theorem ggX1_pass_X1_requireMinutes : GoodIn wsX1_pass wsX1_requireMinutes := goodIn_ca (goodIn_r _ [5, 6, 7] (by decide +kernel) (by decide +kernel)) (goodIn_sub (fun _ h => List.mem_cons_of_mem _ (List.mem_append_right _ h)) (by decide +kernel))
set_option maxRecDepth 20000 in
theorem gX1_pass_X1_requireMinutes : GoodIn wsX1_pass (va_wsS RX1 37 yX1_requireMinutes wsX1_requireMinutes) := goodIn_app (goodIn_of _ (by decide +kernel)) ggX1_pass_X1_requireMinutes
set_option maxRecDepth 20000 in
theorem ggX1_pass_X0_countIn : GoodIn wsX1_pass wsX0_countIn := goodIn_r _ [12, 13, 14, 81, 82, 83, 84, 85, 86, 87, 88, 89, 90, 91, 92, 93, 94, 95] (by decide +kernel) (by decide +kernel)
set_option maxRecDepth 20000 in
theorem gX1_pass_X0_countIn : GoodIn wsX1_pass (wsV RX1 68 RX0 yX0_countIn wsX0_countIn) := goodIn_app (goodIn_of _ (by decide +kernel)) ggX1_pass_X0_countIn
set_option maxRecDepth 20000 in
theorem ggX1_pass_X0_goOneMinute : GoodIn wsX1_pass wsX0_goOneMinute := goodIn_r _ [18, 19, 20, 21, 22, 23, 24, 11, 25, 13, 14, 26, 27, 28, 29, 30, 31, 32, 33, 34, 35, 36, 37, 38, 39, 40, 41, 42, 43, 44, 45, 46, 47, 48, 49, 50, 51, 52, 53, 54, 55, 56, 57, 58, 59, 60, 61, 62, 63, 64, 65, 66, 67, 68, 69, 70, 71, 72, 73, 74, 75, 76, 77, 78, 81, 82, 83, 84, 85, 86, 87, 88, 89, 90, 91, 92, 93, 94, 95] (by decide +kernel) (by decide +kernel)
set_option maxRecDepth 20000 in
theorem gX1_pass_X0_goOneMinute : GoodIn wsX1_pass (wsV RX1 72 RX0 yX0_goOneMinute wsX0_goOneMinute) := goodIn_app (goodIn_of _ (by decide +kernel)) ggX1_pass_X0_goOneMinute
theorem dX1_pass_0 : decode cX1_pass 0 = .ok (.iload_n 1, 1) := by decide +kernel
theorem dX1_pass_1 : decode cX1_pass 1 = .ok (.invokestatic 37, 3) := by decide +kernel
theorem dX1_pass_4 : decode cX1_pass 4 = .ok (.aload_n 0, 1) := by decide +kernel
theorem dX1_pass_5 : decode cX1_pass 5 = .ok (.getfield 10, 3) := by decide +kernel
theorem dX1_pass_8 : decode cX1_pass 8 = .ok (.iconst 3, 1) := by decide +kernel
theorem dX1_pass_9 : decode cX1_pass 9 = .ok (.invokevirtual 68, 3) := by decide +kernel
theorem dX1_pass_12 : decode cX1_pass 12 = .ok (.istore_n 2, 1) := by decide +kernel
theorem dX1_pass_13 : decode cX1_pass 13 = .ok (.iconst 0, 1) := by decide +kernel
theorem dX1_pass_14 : decode cX1_pass 14 = .ok (.istore_n 3, 1) := by decide +kernel
theorem dX1_pass_15 : decode cX1_pass 15 = .ok (.iload_n 3, 1) := by decide +kernel
theorem dX1_pass_16 : decode cX1_pass 16 = .ok (.iload_n 1, 1) := by decide +kernel
theorem dX1_pass_17 : decode cX1_pass 17 = .ok (.if_icmp .ge 16, 3) := by decide +kernel
theorem dX1_pass_20 : decode cX1_pass 20 = .ok (.aload_n 0, 1) := by decide +kernel
theorem dX1_pass_21 : decode cX1_pass 21 = .ok (.getfield 10, 3) := by decide +kernel
theorem dX1_pass_24 : decode cX1_pass 24 = .ok (.invokevirtual 72, 3) := by decide +kernel
theorem dX1_pass_27 : decode cX1_pass 27 = .ok (.iinc 3 1, 3) := by decide +kernel
theorem dX1_pass_30 : decode cX1_pass 30 = .ok (.goto (-15), 3) := by decide +kernel
theorem dX1_pass_33 : decode cX1_pass 33 = .ok (.aload_n 0, 1) := by decide +kernel
theorem dX1_pass_34 : decode cX1_pass 34 = .ok (.getfield 10, 3) := by decide +kernel
theorem dX1_pass_37 : decode cX1_pass 37 = .ok (.iconst 3, 1) := by decide +kernel
theorem dX1_pass_38 : decode cX1_pass 38 = .ok (.invokevirtual 68, 3) := by decide +kernel
theorem dX1_pass_41 : decode cX1_pass 41 = .ok (.iload_n 2, 1) := by decide +kernel
theorem dX1_pass_42 : decode cX1_pass 42 = .ok (.isub, 1) := by decide +kernel
theorem dX1_pass_43 : decode cX1_pass 43 = .ok (.ireturn, 1) := by decide +kernel
theorem dX1_minute_0 : decode cX1_minute 0 = .ok (.aload_n 0, 1) := by decide +kernel
theorem dX1_minute_1 : decode cX1_minute 1 = .ok (.getfield 10, 3) := by decide +kernel
theorem dX1_minute_4 : decode cX1_minute 4 = .ok (.getfield 75, 3) := by decide +kernel
theorem dX1_minute_7 : decode cX1_minute 7 = .ok (.ireturn, 1) := by decide +kernel
theorem dX1_travellers_0 : decode cX1_travellers 0 = .ok (.aload_n 0, 1) := by decide +kernel
theorem dX1_travellers_1 : decode cX1_travellers 1 = .ok (.getfield 10, 3) := by decide +kernel
theorem dX1_travellers_4 : decode cX1_travellers 4 = .ok (.getfield 40, 3) := by decide +kernel
theorem dX1_travellers_7 : decode cX1_travellers 7 = .ok (.ireturn, 1) := by decide +kernel
set_option maxRecDepth 20000 in
theorem ggX1_waiting_X0_countIn : GoodIn wsX1_waiting wsX0_countIn := goodIn_r _ [6, 7, 8, 11, 12, 13, 14, 15, 16, 17, 18, 19, 20, 21, 22, 23, 24, 25] (by decide +kernel) (by decide +kernel)
set_option maxRecDepth 20000 in
theorem gX1_waiting_X0_countIn : GoodIn wsX1_waiting (wsV RX1 68 RX0 yX0_countIn wsX0_countIn) := goodIn_app (goodIn_of _ (by decide +kernel)) ggX1_waiting_X0_countIn
theorem dX1_waiting_0 : decode cX1_waiting 0 = .ok (.aload_n 0, 1) := by decide +kernel
theorem dX1_waiting_1 : decode cX1_waiting 1 = .ok (.getfield 10, 3) := by decide +kernel
theorem dX1_waiting_4 : decode cX1_waiting 4 = .ok (.iconst 0, 1) := by decide +kernel
theorem dX1_waiting_5 : decode cX1_waiting 5 = .ok (.invokevirtual 68, 3) := by decide +kernel
theorem dX1_waiting_8 : decode cX1_waiting 8 = .ok (.ireturn, 1) := by decide +kernel
set_option maxRecDepth 20000 in
theorem ggX1_asleep_X0_countIn : GoodIn wsX1_asleep wsX0_countIn := goodIn_r _ [6, 7, 8, 11, 12, 13, 14, 15, 16, 17, 18, 19, 20, 21, 22, 23, 24, 25] (by decide +kernel) (by decide +kernel)
set_option maxRecDepth 20000 in
theorem gX1_asleep_X0_countIn : GoodIn wsX1_asleep (wsV RX1 68 RX0 yX0_countIn wsX0_countIn) := goodIn_app (goodIn_of _ (by decide +kernel)) ggX1_asleep_X0_countIn
theorem dX1_asleep_0 : decode cX1_asleep 0 = .ok (.aload_n 0, 1) := by decide +kernel
theorem dX1_asleep_1 : decode cX1_asleep 1 = .ok (.getfield 10, 3) := by decide +kernel
theorem dX1_asleep_4 : decode cX1_asleep 4 = .ok (.iconst 3, 1) := by decide +kernel
theorem dX1_asleep_5 : decode cX1_asleep 5 = .ok (.invokevirtual 68, 3) := by decide +kernel
theorem dX1_asleep_8 : decode cX1_asleep 8 = .ok (.ireturn, 1) := by decide +kernel
set_option maxRecDepth 20000 in
theorem ggX1_sentBack_X0_countIn : GoodIn wsX1_sentBack wsX0_countIn := goodIn_r _ [6, 7, 8, 11, 12, 13, 14, 15, 16, 17, 18, 19, 20, 21, 22, 23, 24, 25] (by decide +kernel) (by decide +kernel)
set_option maxRecDepth 20000 in
theorem gX1_sentBack_X0_countIn : GoodIn wsX1_sentBack (wsV RX1 68 RX0 yX0_countIn wsX0_countIn) := goodIn_app (goodIn_of _ (by decide +kernel)) ggX1_sentBack_X0_countIn
theorem dX1_sentBack_0 : decode cX1_sentBack 0 = .ok (.aload_n 0, 1) := by decide +kernel
theorem dX1_sentBack_1 : decode cX1_sentBack 1 = .ok (.getfield 10, 3) := by decide +kernel
theorem dX1_sentBack_4 : decode cX1_sentBack 4 = .ok (.iconst 4, 1) := by decide +kernel
theorem dX1_sentBack_5 : decode cX1_sentBack 5 = .ok (.invokevirtual 68, 3) := by decide +kernel
theorem dX1_sentBack_8 : decode cX1_sentBack 8 = .ok (.ireturn, 1) := by decide +kernel
theorem dX1_expired_0 : decode cX1_expired 0 = .ok (.aload_n 0, 1) := by decide +kernel
theorem dX1_expired_1 : decode cX1_expired 1 = .ok (.getfield 10, 3) := by decide +kernel
theorem dX1_expired_4 : decode cX1_expired 4 = .ok (.getfield 78, 3) := by decide +kernel
theorem dX1_expired_7 : decode cX1_expired 7 = .ok (.ireturn, 1) := by decide +kernel
theorem dX1_paid_0 : decode cX1_paid 0 = .ok (.aload_n 0, 1) := by decide +kernel
theorem dX1_paid_1 : decode cX1_paid 1 = .ok (.getfield 10, 3) := by decide +kernel
theorem dX1_paid_4 : decode cX1_paid 4 = .ok (.getfield 81, 3) := by decide +kernel
theorem dX1_paid_7 : decode cX1_paid 7 = .ok (.ireturn, 1) := by decide +kernel
set_option maxRecDepth 20000 in
theorem ggX1_noise_X0_addedSnores : GoodIn wsX1_noise wsX0_addedSnores := goodIn_r _ [6, 7, 8, 9, 12, 13, 14, 15, 16, 17, 18, 19, 20, 21, 22, 23, 24, 25, 26] (by decide +kernel) (by decide +kernel)
set_option maxRecDepth 20000 in
theorem gX1_noise_X0_addedSnores : GoodIn wsX1_noise (wsV RX1 84 RX0 yX0_addedSnores wsX0_addedSnores) := goodIn_app (goodIn_of _ (by decide +kernel)) ggX1_noise_X0_addedSnores
theorem dX1_noise_0 : decode cX1_noise 0 = .ok (.aload_n 0, 1) := by decide +kernel
theorem dX1_noise_1 : decode cX1_noise 1 = .ok (.getfield 10, 3) := by decide +kernel
theorem dX1_noise_4 : decode cX1_noise 4 = .ok (.invokevirtual 84, 3) := by decide +kernel
theorem dX1_noise_7 : decode cX1_noise 7 = .ok (.ireturn, 1) := by decide +kernel
set_option maxRecDepth 20000 in
theorem ggX1_nextInLine_X0_firstWaiting : GoodIn wsX1_nextInLine wsX0_firstWaiting := goodIn_r _ [6, 7, 8, 11, 12, 13, 14, 15, 16, 17, 18, 19, 20, 21, 22, 23, 24, 25] (by decide +kernel) (by decide +kernel)
set_option maxRecDepth 20000 in
theorem gX1_nextInLine_X0_firstWaiting : GoodIn wsX1_nextInLine (wsV RX1 88 RX0 yX0_firstWaiting wsX0_firstWaiting) := goodIn_app (goodIn_of _ (by decide +kernel)) ggX1_nextInLine_X0_firstWaiting
theorem dX1_nextInLine_0 : decode cX1_nextInLine 0 = .ok (.aload_n 0, 1) := by decide +kernel
theorem dX1_nextInLine_1 : decode cX1_nextInLine 1 = .ok (.getfield 10, 3) := by decide +kernel
theorem dX1_nextInLine_4 : decode cX1_nextInLine 4 = .ok (.invokevirtual 88, 3) := by decide +kernel
theorem dX1_nextInLine_7 : decode cX1_nextInLine 7 = .ok (.ireturn, 1) := by decide +kernel
set_option maxRecDepth 20000 in
theorem ggX1_stateOf_X1_requireTraveller : GoodIn wsX1_stateOf wsX1_requireTraveller := goodIn_ca (goodIn_r _ [7, 8, 9, 1, 10, 11, 12, 13, 14, 15, 16, 17, 18, 19, 20, 21, 22, 23, 24, 25, 26, 27, 28, 29, 30, 31, 32] (by decide +kernel) (by decide +kernel)) (goodIn_sub (fun _ h => List.mem_cons_of_mem _ (List.mem_append_right _ h)) (by decide +kernel))
set_option maxRecDepth 20000 in
theorem gX1_stateOf_X1_requireTraveller : GoodIn wsX1_stateOf (wsV RX1 49 RX1 yX1_requireTraveller wsX1_requireTraveller) := goodIn_app (goodIn_of _ (by decide +kernel)) ggX1_stateOf_X1_requireTraveller
theorem dX1_stateOf_0 : decode cX1_stateOf 0 = .ok (.aload_n 0, 1) := by decide +kernel
theorem dX1_stateOf_1 : decode cX1_stateOf 1 = .ok (.iload_n 1, 1) := by decide +kernel
theorem dX1_stateOf_2 : decode cX1_stateOf 2 = .ok (.invokevirtual 49, 3) := by decide +kernel
theorem dX1_stateOf_5 : decode cX1_stateOf 5 = .ok (.aload_n 0, 1) := by decide +kernel
theorem dX1_stateOf_6 : decode cX1_stateOf 6 = .ok (.getfield 10, 3) := by decide +kernel
theorem dX1_stateOf_9 : decode cX1_stateOf 9 = .ok (.getfield 91, 3) := by decide +kernel
theorem dX1_stateOf_12 : decode cX1_stateOf 12 = .ok (.iload_n 1, 1) := by decide +kernel
theorem dX1_stateOf_13 : decode cX1_stateOf 13 = .ok (.iaload, 1) := by decide +kernel
theorem dX1_stateOf_14 : decode cX1_stateOf 14 = .ok (.ireturn, 1) := by decide +kernel
set_option maxRecDepth 20000 in
theorem ggX1_hiddenOf_X1_requireTraveller : GoodIn wsX1_hiddenOf wsX1_requireTraveller := goodIn_ca (goodIn_r _ [6, 7, 8, 1, 9, 10, 11, 12, 13, 14, 21, 22, 23, 24, 25, 26, 27, 28, 29, 30, 31, 32, 33, 34, 35, 36, 37] (by decide +kernel) (by decide +kernel)) (goodIn_sub (fun _ h => List.mem_cons_of_mem _ (List.mem_append_right _ h)) (by decide +kernel))
set_option maxRecDepth 20000 in
theorem gX1_hiddenOf_X1_requireTraveller : GoodIn wsX1_hiddenOf (wsV RX1 49 RX1 yX1_requireTraveller wsX1_requireTraveller) := goodIn_app (goodIn_of _ (by decide +kernel)) ggX1_hiddenOf_X1_requireTraveller
set_option maxRecDepth 20000 in
theorem ggX1_hiddenOf_X0_hiddenDreams : GoodIn wsX1_hiddenOf wsX0_hiddenDreams := goodIn_r _ [18, 19, 20, 23, 24, 25, 26, 27, 28, 29, 30, 31, 32, 33, 34, 35, 36, 37] (by decide +kernel) (by decide +kernel)
set_option maxRecDepth 20000 in
theorem gX1_hiddenOf_X0_hiddenDreams : GoodIn wsX1_hiddenOf (wsV RX1 94 RX0 yX0_hiddenDreams wsX0_hiddenDreams) := goodIn_app (goodIn_of _ (by decide +kernel)) ggX1_hiddenOf_X0_hiddenDreams
theorem dX1_hiddenOf_0 : decode cX1_hiddenOf 0 = .ok (.aload_n 0, 1) := by decide +kernel
theorem dX1_hiddenOf_1 : decode cX1_hiddenOf 1 = .ok (.iload_n 1, 1) := by decide +kernel
theorem dX1_hiddenOf_2 : decode cX1_hiddenOf 2 = .ok (.invokevirtual 49, 3) := by decide +kernel
theorem dX1_hiddenOf_5 : decode cX1_hiddenOf 5 = .ok (.aload_n 0, 1) := by decide +kernel
theorem dX1_hiddenOf_6 : decode cX1_hiddenOf 6 = .ok (.getfield 10, 3) := by decide +kernel
theorem dX1_hiddenOf_9 : decode cX1_hiddenOf 9 = .ok (.iload_n 1, 1) := by decide +kernel
theorem dX1_hiddenOf_10 : decode cX1_hiddenOf 10 = .ok (.invokevirtual 94, 3) := by decide +kernel
theorem dX1_hiddenOf_13 : decode cX1_hiddenOf 13 = .ok (.ireturn, 1) := by decide +kernel
set_option maxRecDepth 20000 in
theorem ggX1_lullabyOf_X1_requireTraveller : GoodIn wsX1_lullabyOf wsX1_requireTraveller := goodIn_ca (goodIn_r _ [7, 8, 9, 1, 10, 11, 12, 13, 14, 15, 16, 17, 18, 19, 20, 21, 22, 23, 24, 25, 26, 27, 28, 29, 30, 31, 32] (by decide +kernel) (by decide +kernel)) (goodIn_sub (fun _ h => List.mem_cons_of_mem _ (List.mem_append_right _ h)) (by decide +kernel))
set_option maxRecDepth 20000 in
theorem gX1_lullabyOf_X1_requireTraveller : GoodIn wsX1_lullabyOf (wsV RX1 49 RX1 yX1_requireTraveller wsX1_requireTraveller) := goodIn_app (goodIn_of _ (by decide +kernel)) ggX1_lullabyOf_X1_requireTraveller
theorem dX1_lullabyOf_0 : decode cX1_lullabyOf 0 = .ok (.aload_n 0, 1) := by decide +kernel
theorem dX1_lullabyOf_1 : decode cX1_lullabyOf 1 = .ok (.iload_n 1, 1) := by decide +kernel
theorem dX1_lullabyOf_2 : decode cX1_lullabyOf 2 = .ok (.invokevirtual 49, 3) := by decide +kernel
theorem dX1_lullabyOf_5 : decode cX1_lullabyOf 5 = .ok (.aload_n 0, 1) := by decide +kernel
theorem dX1_lullabyOf_6 : decode cX1_lullabyOf 6 = .ok (.getfield 10, 3) := by decide +kernel
theorem dX1_lullabyOf_9 : decode cX1_lullabyOf 9 = .ok (.getfield 59, 3) := by decide +kernel
theorem dX1_lullabyOf_12 : decode cX1_lullabyOf 12 = .ok (.iload_n 1, 1) := by decide +kernel
theorem dX1_lullabyOf_13 : decode cX1_lullabyOf 13 = .ok (.iaload, 1) := by decide +kernel
theorem dX1_lullabyOf_14 : decode cX1_lullabyOf 14 = .ok (.ireturn, 1) := by decide +kernel
set_option maxRecDepth 20000 in
theorem ggX1_placeInLine_X1_requireTraveller : GoodIn wsX1_placeInLine wsX1_requireTraveller := goodIn_ca (goodIn_r _ [7, 8, 9, 1, 10, 11, 12, 13, 14, 15, 21, 22, 23, 24, 25, 26, 27, 28, 29, 30, 31, 32, 33, 34, 35, 36, 37] (by decide +kernel) (by decide +kernel)) (goodIn_sub (fun _ h => List.mem_cons_of_mem _ (List.mem_append_right _ h)) (by decide +kernel))
set_option maxRecDepth 20000 in
theorem gX1_placeInLine_X1_requireTraveller : GoodIn wsX1_placeInLine (wsV RX1 49 RX1 yX1_requireTraveller wsX1_requireTraveller) := goodIn_app (goodIn_of _ (by decide +kernel)) ggX1_placeInLine_X1_requireTraveller
set_option maxRecDepth 20000 in
theorem ggX1_placeInLine_X0_waitingAhead : GoodIn wsX1_placeInLine wsX0_waitingAhead := goodIn_r _ [19, 15, 20, 23, 24, 25, 26, 27, 28, 29, 30, 31, 32, 33, 34, 35, 36, 37] (by decide +kernel) (by decide +kernel)
set_option maxRecDepth 20000 in
theorem gX1_placeInLine_X0_waitingAhead : GoodIn wsX1_placeInLine (wsV RX1 97 RX0 yX0_waitingAhead wsX0_waitingAhead) := goodIn_app (goodIn_of _ (by decide +kernel)) ggX1_placeInLine_X0_waitingAhead
theorem dX1_placeInLine_0 : decode cX1_placeInLine 0 = .ok (.aload_n 0, 1) := by decide +kernel
theorem dX1_placeInLine_1 : decode cX1_placeInLine 1 = .ok (.iload_n 1, 1) := by decide +kernel
theorem dX1_placeInLine_2 : decode cX1_placeInLine 2 = .ok (.invokevirtual 49, 3) := by decide +kernel
theorem dX1_placeInLine_5 : decode cX1_placeInLine 5 = .ok (.aload_n 0, 1) := by decide +kernel
theorem dX1_placeInLine_6 : decode cX1_placeInLine 6 = .ok (.getfield 10, 3) := by decide +kernel
theorem dX1_placeInLine_9 : decode cX1_placeInLine 9 = .ok (.getfield 91, 3) := by decide +kernel
theorem dX1_placeInLine_12 : decode cX1_placeInLine 12 = .ok (.iload_n 1, 1) := by decide +kernel
theorem dX1_placeInLine_13 : decode cX1_placeInLine 13 = .ok (.iaload, 1) := by decide +kernel
theorem dX1_placeInLine_14 : decode cX1_placeInLine 14 = .ok (.ifCond .eq 5, 3) := by decide +kernel
theorem dX1_placeInLine_17 : decode cX1_placeInLine 17 = .ok (.iconst (-1), 1) := by decide +kernel
theorem dX1_placeInLine_18 : decode cX1_placeInLine 18 = .ok (.ireturn, 1) := by decide +kernel
theorem dX1_placeInLine_19 : decode cX1_placeInLine 19 = .ok (.aload_n 0, 1) := by decide +kernel
theorem dX1_placeInLine_20 : decode cX1_placeInLine 20 = .ok (.getfield 10, 3) := by decide +kernel
theorem dX1_placeInLine_23 : decode cX1_placeInLine 23 = .ok (.iload_n 1, 1) := by decide +kernel
theorem dX1_placeInLine_24 : decode cX1_placeInLine 24 = .ok (.invokevirtual 97, 3) := by decide +kernel
theorem dX1_placeInLine_27 : decode cX1_placeInLine 27 = .ok (.ireturn, 1) := by decide +kernel
set_option maxRecDepth 20000 in
theorem ggX1_searchTime_X1_requireTraveller : GoodIn wsX1_searchTime wsX1_requireTraveller := goodIn_ca (goodIn_r _ [6, 7, 8, 1, 9, 10, 11, 12, 13, 14, 26, 27, 28, 29, 30, 31, 32, 33, 34, 35, 36, 37, 38, 39, 40, 41, 42] (by decide +kernel) (by decide +kernel)) (goodIn_sub (fun _ h => List.mem_cons_of_mem _ (List.mem_append_right _ h)) (by decide +kernel))
set_option maxRecDepth 20000 in
theorem gX1_searchTime_X1_requireTraveller : GoodIn wsX1_searchTime (wsV RX1 49 RX1 yX1_requireTraveller wsX1_requireTraveller) := goodIn_app (goodIn_of _ (by decide +kernel)) ggX1_searchTime_X1_requireTraveller
set_option maxRecDepth 20000 in
theorem ggX1_searchTime_X0_searchMinutes : GoodIn wsX1_searchTime wsX0_searchMinutes := goodIn_r _ [18, 19, 20, 21, 22, 12, 23, 14, 24, 25, 28, 29, 30, 31, 32, 33, 34, 35, 36, 37, 38, 39, 40, 41, 42] (by decide +kernel) (by decide +kernel)
set_option maxRecDepth 20000 in
theorem gX1_searchTime_X0_searchMinutes : GoodIn wsX1_searchTime (wsV RX1 100 RX0 yX0_searchMinutes wsX0_searchMinutes) := goodIn_app (goodIn_of _ (by decide +kernel)) ggX1_searchTime_X0_searchMinutes
theorem dX1_searchTime_0 : decode cX1_searchTime 0 = .ok (.aload_n 0, 1) := by decide +kernel
theorem dX1_searchTime_1 : decode cX1_searchTime 1 = .ok (.iload_n 1, 1) := by decide +kernel
theorem dX1_searchTime_2 : decode cX1_searchTime 2 = .ok (.invokevirtual 49, 3) := by decide +kernel
theorem dX1_searchTime_5 : decode cX1_searchTime 5 = .ok (.aload_n 0, 1) := by decide +kernel
theorem dX1_searchTime_6 : decode cX1_searchTime 6 = .ok (.getfield 10, 3) := by decide +kernel
theorem dX1_searchTime_9 : decode cX1_searchTime 9 = .ok (.iload_n 1, 1) := by decide +kernel
theorem dX1_searchTime_10 : decode cX1_searchTime 10 = .ok (.invokevirtual 100, 3) := by decide +kernel
theorem dX1_searchTime_13 : decode cX1_searchTime 13 = .ok (.ireturn, 1) := by decide +kernel
theorem dX1_guards_0 : decode cX1_guards 0 = .ok (.aload_n 0, 1) := by decide +kernel
theorem dX1_guards_1 : decode cX1_guards 1 = .ok (.getfield 10, 3) := by decide +kernel
theorem dX1_guards_4 : decode cX1_guards 4 = .ok (.getfield 19, 3) := by decide +kernel
theorem dX1_guards_7 : decode cX1_guards 7 = .ok (.ireturn, 1) := by decide +kernel
set_option maxRecDepth 20000 in
theorem ggX1_alertnessOf_X1_requireGuard : GoodIn wsX1_alertnessOf wsX1_requireGuard := goodIn_ca (goodIn_r _ [7, 8, 9, 1, 10, 11, 12, 13, 14, 15, 16, 17, 18, 19, 20, 21, 22, 23, 24, 25, 26, 27, 28, 29, 30, 31, 32] (by decide +kernel) (by decide +kernel)) (goodIn_sub (fun _ h => List.mem_cons_of_mem _ (List.mem_append_right _ h)) (by decide +kernel))
set_option maxRecDepth 20000 in
theorem gX1_alertnessOf_X1_requireGuard : GoodIn wsX1_alertnessOf (wsV RX1 62 RX1 yX1_requireGuard wsX1_requireGuard) := goodIn_app (goodIn_of _ (by decide +kernel)) ggX1_alertnessOf_X1_requireGuard
theorem dX1_alertnessOf_0 : decode cX1_alertnessOf 0 = .ok (.aload_n 0, 1) := by decide +kernel
theorem dX1_alertnessOf_1 : decode cX1_alertnessOf 1 = .ok (.iload_n 1, 1) := by decide +kernel
theorem dX1_alertnessOf_2 : decode cX1_alertnessOf 2 = .ok (.invokevirtual 62, 3) := by decide +kernel
theorem dX1_alertnessOf_5 : decode cX1_alertnessOf 5 = .ok (.aload_n 0, 1) := by decide +kernel
theorem dX1_alertnessOf_6 : decode cX1_alertnessOf 6 = .ok (.getfield 10, 3) := by decide +kernel
theorem dX1_alertnessOf_9 : decode cX1_alertnessOf 9 = .ok (.getfield 65, 3) := by decide +kernel
theorem dX1_alertnessOf_12 : decode cX1_alertnessOf 12 = .ok (.iload_n 1, 1) := by decide +kernel
theorem dX1_alertnessOf_13 : decode cX1_alertnessOf 13 = .ok (.iaload, 1) := by decide +kernel
theorem dX1_alertnessOf_14 : decode cX1_alertnessOf 14 = .ok (.ireturn, 1) := by decide +kernel
set_option maxRecDepth 20000 in
theorem ggX1_searches_X1_requireGuard : GoodIn wsX1_searches wsX1_requireGuard := goodIn_ca (goodIn_r _ [7, 8, 9, 1, 10, 11, 12, 13, 14, 15, 16, 17, 18, 19, 20, 21, 22, 23, 24, 25, 26, 27, 28, 29, 30, 31, 32] (by decide +kernel) (by decide +kernel)) (goodIn_sub (fun _ h => List.mem_cons_of_mem _ (List.mem_append_right _ h)) (by decide +kernel))
set_option maxRecDepth 20000 in
theorem gX1_searches_X1_requireGuard : GoodIn wsX1_searches (wsV RX1 62 RX1 yX1_requireGuard wsX1_requireGuard) := goodIn_app (goodIn_of _ (by decide +kernel)) ggX1_searches_X1_requireGuard
theorem dX1_searches_0 : decode cX1_searches 0 = .ok (.aload_n 0, 1) := by decide +kernel
theorem dX1_searches_1 : decode cX1_searches 1 = .ok (.iload_n 1, 1) := by decide +kernel
theorem dX1_searches_2 : decode cX1_searches 2 = .ok (.invokevirtual 62, 3) := by decide +kernel
theorem dX1_searches_5 : decode cX1_searches 5 = .ok (.aload_n 0, 1) := by decide +kernel
theorem dX1_searches_6 : decode cX1_searches 6 = .ok (.getfield 10, 3) := by decide +kernel
theorem dX1_searches_9 : decode cX1_searches 9 = .ok (.getfield 103, 3) := by decide +kernel
theorem dX1_searches_12 : decode cX1_searches 12 = .ok (.iload_n 1, 1) := by decide +kernel
theorem dX1_searches_13 : decode cX1_searches 13 = .ok (.iaload, 1) := by decide +kernel
theorem dX1_searches_14 : decode cX1_searches 14 = .ok (.ireturn, 1) := by decide +kernel
set_option maxRecDepth 20000 in
theorem ggX1_minutesToGo_X1_requireGuard : GoodIn wsX1_minutesToGo wsX1_requireGuard := goodIn_ca (goodIn_r _ [7, 8, 9, 1, 10, 11, 12, 13, 14, 15, 16, 17, 18, 19, 20, 21, 22, 23, 24, 25, 26, 27, 28, 29, 30, 31, 32] (by decide +kernel) (by decide +kernel)) (goodIn_sub (fun _ h => List.mem_cons_of_mem _ (List.mem_append_right _ h)) (by decide +kernel))
set_option maxRecDepth 20000 in
theorem gX1_minutesToGo_X1_requireGuard : GoodIn wsX1_minutesToGo (wsV RX1 62 RX1 yX1_requireGuard wsX1_requireGuard) := goodIn_app (goodIn_of _ (by decide +kernel)) ggX1_minutesToGo_X1_requireGuard
theorem dX1_minutesToGo_0 : decode cX1_minutesToGo 0 = .ok (.aload_n 0, 1) := by decide +kernel
theorem dX1_minutesToGo_1 : decode cX1_minutesToGo 1 = .ok (.iload_n 1, 1) := by decide +kernel
theorem dX1_minutesToGo_2 : decode cX1_minutesToGo 2 = .ok (.invokevirtual 62, 3) := by decide +kernel
theorem dX1_minutesToGo_5 : decode cX1_minutesToGo 5 = .ok (.aload_n 0, 1) := by decide +kernel
theorem dX1_minutesToGo_6 : decode cX1_minutesToGo 6 = .ok (.getfield 10, 3) := by decide +kernel
theorem dX1_minutesToGo_9 : decode cX1_minutesToGo 9 = .ok (.getfield 106, 3) := by decide +kernel
theorem dX1_minutesToGo_12 : decode cX1_minutesToGo 12 = .ok (.iload_n 1, 1) := by decide +kernel
theorem dX1_minutesToGo_13 : decode cX1_minutesToGo 13 = .ok (.iaload, 1) := by decide +kernel
theorem dX1_minutesToGo_14 : decode cX1_minutesToGo 14 = .ok (.ireturn, 1) := by decide +kernel
set_option maxRecDepth 20000 in
theorem ggX1_wouldFind_X1_requireGuard : GoodIn wsX1_wouldFind wsX1_requireGuard := goodIn_ca (goodIn_r _ [6, 7, 8, 1, 9, 10, 11, 12, 13, 14, 35, 36, 37, 38, 39, 40, 41, 42, 43, 44, 45, 46, 47, 48, 49, 50, 51] (by decide +kernel) (by decide +kernel)) (goodIn_sub (fun _ h => List.mem_cons_of_mem _ (List.mem_append_right _ h)) (by decide +kernel))
set_option maxRecDepth 20000 in
theorem gX1_wouldFind_X1_requireGuard : GoodIn wsX1_wouldFind (wsV RX1 62 RX1 yX1_requireGuard wsX1_requireGuard) := goodIn_app (goodIn_of _ (by decide +kernel)) ggX1_wouldFind_X1_requireGuard
set_option maxRecDepth 20000 in
theorem ggX1_wouldFind_X1_requireTraveller : GoodIn wsX1_wouldFind wsX1_requireTraveller := goodIn_ca (goodIn_r _ [18, 7, 8, 1, 19, 20, 21, 12, 22, 23, 35, 36, 37, 38, 39, 40, 41, 42, 43, 44, 45, 46, 47, 48, 49, 50, 51] (by decide +kernel) (by decide +kernel)) (goodIn_sub (fun _ h => List.mem_cons_of_mem _ (List.mem_append_right _ h)) (by decide +kernel))
set_option maxRecDepth 20000 in
theorem gX1_wouldFind_X1_requireTraveller : GoodIn wsX1_wouldFind (wsV RX1 49 RX1 yX1_requireTraveller wsX1_requireTraveller) := goodIn_app (goodIn_of _ (by decide +kernel)) ggX1_wouldFind_X1_requireTraveller
set_option maxRecDepth 20000 in
theorem ggX1_wouldFind_X0_finds : GoodIn wsX1_wouldFind wsX0_finds := goodIn_r _ [27, 28, 29, 30, 31, 12, 32, 33, 34, 37, 38, 39, 40, 41, 42, 43, 44, 45, 46, 47, 48, 49, 50, 51] (by decide +kernel) (by decide +kernel)
set_option maxRecDepth 20000 in
theorem gX1_wouldFind_X0_finds : GoodIn wsX1_wouldFind (wsV RX1 109 RX0 yX0_finds wsX0_finds) := goodIn_app (goodIn_of _ (by decide +kernel)) ggX1_wouldFind_X0_finds
theorem dX1_wouldFind_0 : decode cX1_wouldFind 0 = .ok (.aload_n 0, 1) := by decide +kernel
theorem dX1_wouldFind_1 : decode cX1_wouldFind 1 = .ok (.iload_n 1, 1) := by decide +kernel
theorem dX1_wouldFind_2 : decode cX1_wouldFind 2 = .ok (.invokevirtual 62, 3) := by decide +kernel
theorem dX1_wouldFind_5 : decode cX1_wouldFind 5 = .ok (.aload_n 0, 1) := by decide +kernel
theorem dX1_wouldFind_6 : decode cX1_wouldFind 6 = .ok (.iload_n 2, 1) := by decide +kernel
theorem dX1_wouldFind_7 : decode cX1_wouldFind 7 = .ok (.invokevirtual 49, 3) := by decide +kernel
theorem dX1_wouldFind_10 : decode cX1_wouldFind 10 = .ok (.aload_n 0, 1) := by decide +kernel
theorem dX1_wouldFind_11 : decode cX1_wouldFind 11 = .ok (.getfield 10, 3) := by decide +kernel
theorem dX1_wouldFind_14 : decode cX1_wouldFind 14 = .ok (.iload_n 1, 1) := by decide +kernel
theorem dX1_wouldFind_15 : decode cX1_wouldFind 15 = .ok (.iload_n 2, 1) := by decide +kernel
theorem dX1_wouldFind_16 : decode cX1_wouldFind 16 = .ok (.invokevirtual 109, 3) := by decide +kernel
theorem dX1_wouldFind_19 : decode cX1_wouldFind 19 = .ok (.ireturn, 1) := by decide +kernel
theorem dX1_mostAlert_0 : decode cX1_mostAlert 0 = .ok (.iconst (-1), 1) := by decide +kernel
theorem dX1_mostAlert_1 : decode cX1_mostAlert 1 = .ok (.istore_n 1, 1) := by decide +kernel
theorem dX1_mostAlert_2 : decode cX1_mostAlert 2 = .ok (.iconst (-1), 1) := by decide +kernel
theorem dX1_mostAlert_3 : decode cX1_mostAlert 3 = .ok (.istore_n 2, 1) := by decide +kernel
theorem dX1_mostAlert_4 : decode cX1_mostAlert 4 = .ok (.iconst 0, 1) := by decide +kernel
theorem dX1_mostAlert_5 : decode cX1_mostAlert 5 = .ok (.istore_n 3, 1) := by decide +kernel
theorem dX1_mostAlert_6 : decode cX1_mostAlert 6 = .ok (.iload_n 3, 1) := by decide +kernel
theorem dX1_mostAlert_7 : decode cX1_mostAlert 7 = .ok (.aload_n 0, 1) := by decide +kernel
theorem dX1_mostAlert_8 : decode cX1_mostAlert 8 = .ok (.getfield 10, 3) := by decide +kernel
theorem dX1_mostAlert_11 : decode cX1_mostAlert 11 = .ok (.getfield 19, 3) := by decide +kernel
theorem dX1_mostAlert_14 : decode cX1_mostAlert 14 = .ok (.if_icmp .ge 34, 3) := by decide +kernel
theorem dX1_mostAlert_17 : decode cX1_mostAlert 17 = .ok (.aload_n 0, 1) := by decide +kernel
theorem dX1_mostAlert_18 : decode cX1_mostAlert 18 = .ok (.getfield 10, 3) := by decide +kernel
theorem dX1_mostAlert_21 : decode cX1_mostAlert 21 = .ok (.getfield 65, 3) := by decide +kernel
theorem dX1_mostAlert_24 : decode cX1_mostAlert 24 = .ok (.iload_n 3, 1) := by decide +kernel
theorem dX1_mostAlert_25 : decode cX1_mostAlert 25 = .ok (.iaload, 1) := by decide +kernel
theorem dX1_mostAlert_26 : decode cX1_mostAlert 26 = .ok (.iload_n 2, 1) := by decide +kernel
theorem dX1_mostAlert_27 : decode cX1_mostAlert 27 = .ok (.if_icmp .le 15, 3) := by decide +kernel
theorem dX1_mostAlert_30 : decode cX1_mostAlert 30 = .ok (.iload_n 3, 1) := by decide +kernel
theorem dX1_mostAlert_31 : decode cX1_mostAlert 31 = .ok (.istore_n 1, 1) := by decide +kernel
theorem dX1_mostAlert_32 : decode cX1_mostAlert 32 = .ok (.aload_n 0, 1) := by decide +kernel
theorem dX1_mostAlert_33 : decode cX1_mostAlert 33 = .ok (.getfield 10, 3) := by decide +kernel
theorem dX1_mostAlert_36 : decode cX1_mostAlert 36 = .ok (.getfield 65, 3) := by decide +kernel
theorem dX1_mostAlert_39 : decode cX1_mostAlert 39 = .ok (.iload_n 3, 1) := by decide +kernel
theorem dX1_mostAlert_40 : decode cX1_mostAlert 40 = .ok (.iaload, 1) := by decide +kernel
theorem dX1_mostAlert_41 : decode cX1_mostAlert 41 = .ok (.istore_n 2, 1) := by decide +kernel
theorem dX1_mostAlert_42 : decode cX1_mostAlert 42 = .ok (.iinc 3 1, 3) := by decide +kernel
theorem dX1_mostAlert_45 : decode cX1_mostAlert 45 = .ok (.goto (-39), 3) := by decide +kernel
theorem dX1_mostAlert_48 : decode cX1_mostAlert 48 = .ok (.iload_n 1, 1) := by decide +kernel
theorem dX1_mostAlert_49 : decode cX1_mostAlert 49 = .ok (.ireturn, 1) := by decide +kernel
set_option maxRecDepth 20000 in
theorem ggX1_minutesUntilAsleep_X1_requireTraveller : GoodIn wsX1_minutesUntilAsleep wsX1_requireTraveller := goodIn_ca (goodIn_r _ [7, 8, 9, 2, 10, 11, 12, 13, 14, 15, 97, 98, 99, 100, 101, 102, 103, 104, 105, 106, 107, 108, 109, 110, 111, 112, 113] (by decide +kernel) (by decide +kernel)) (goodIn_sub (fun _ h => List.mem_cons_of_mem _ (List.mem_append_right _ h)) (by decide +kernel))
set_option maxRecDepth 20000 in
theorem gX1_minutesUntilAsleep_X1_requireTraveller : GoodIn wsX1_minutesUntilAsleep (wsV RX1 49 RX1 yX1_requireTraveller wsX1_requireTraveller) := goodIn_app (goodIn_of _ (by decide +kernel)) ggX1_minutesUntilAsleep_X1_requireTraveller
set_option maxRecDepth 20000 in
theorem ggX1_minutesUntilAsleep_X0_become : GoodIn wsX1_minutesUntilAsleep wsX0_become := goodIn_r _ [19, 20, 21, 22, 15, 23, 24, 25, 26, 27, 28, 29, 30, 31, 32, 33, 99, 100, 101, 102, 103, 104, 105, 106, 107, 108, 109, 110, 111, 112, 113] (by decide +kernel) (by decide +kernel)
set_option maxRecDepth 20000 in
theorem gX1_minutesUntilAsleep_X0_become : GoodIn wsX1_minutesUntilAsleep (wsV RX1 113 RX0 yX0_become wsX0_become) := goodIn_app (goodIn_of _ (by decide +kernel)) ggX1_minutesUntilAsleep_X0_become
set_option maxRecDepth 20000 in
theorem ggX1_minutesUntilAsleep_X0_goOn : GoodIn wsX1_minutesUntilAsleep wsX0_goOn := goodIn_r _ [37, 38, 39, 40, 13, 41, 15, 27, 42, 43, 44, 45, 30, 32, 20, 46, 47, 48, 49, 28, 29, 50, 51, 52, 53, 26, 21, 54, 11, 12, 14, 55, 56, 57, 58, 33, 22, 31, 59, 60, 61, 62, 63, 64, 65, 66, 67, 68, 69, 70, 23, 24, 71, 72, 73, 74, 75, 76, 77, 78, 79, 80, 81, 82, 83, 84, 85, 86, 87, 88, 89, 25, 99, 100, 101, 102, 103, 104, 105, 106, 107, 108, 109, 110, 111, 112, 113] (by decide +kernel) (by decide +kernel)
set_option maxRecDepth 20000 in
theorem gX1_minutesUntilAsleep_X0_goOn : GoodIn wsX1_minutesUntilAsleep (wsV RX1 117 RX0 yX0_goOn wsX0_goOn) := goodIn_app (goodIn_of _ (by decide +kernel)) ggX1_minutesUntilAsleep_X0_goOn
set_option maxRecDepth 20000 in
theorem ggX1_minutesUntilAsleep_X1_foreseenSleep : GoodIn wsX1_minutesUntilAsleep wsX1_foreseenSleep := goodIn_r _ [93, 2, 94, 1, 95, 96, 97, 98, 99, 100, 101, 102, 103, 104, 105, 106, 107, 108, 109, 110, 111, 112, 113] (by decide +kernel) (by decide +kernel)
set_option maxRecDepth 20000 in
theorem gX1_minutesUntilAsleep_X1_foreseenSleep : GoodIn wsX1_minutesUntilAsleep (wsV RX1 120 RX1 yX1_foreseenSleep wsX1_foreseenSleep) := goodIn_app (goodIn_of _ (by decide +kernel)) ggX1_minutesUntilAsleep_X1_foreseenSleep
theorem dX1_minutesUntilAsleep_0 : decode cX1_minutesUntilAsleep 0 = .ok (.aload_n 0, 1) := by decide +kernel
theorem dX1_minutesUntilAsleep_1 : decode cX1_minutesUntilAsleep 1 = .ok (.iload_n 1, 1) := by decide +kernel
theorem dX1_minutesUntilAsleep_2 : decode cX1_minutesUntilAsleep 2 = .ok (.invokevirtual 49, 3) := by decide +kernel
theorem dX1_minutesUntilAsleep_5 : decode cX1_minutesUntilAsleep 5 = .ok (.aload_n 0, 1) := by decide +kernel
theorem dX1_minutesUntilAsleep_6 : decode cX1_minutesUntilAsleep 6 = .ok (.getfield 16, 3) := by decide +kernel
theorem dX1_minutesUntilAsleep_9 : decode cX1_minutesUntilAsleep 9 = .ok (.aload_n 0, 1) := by decide +kernel
theorem dX1_minutesUntilAsleep_10 : decode cX1_minutesUntilAsleep 10 = .ok (.getfield 10, 3) := by decide +kernel
theorem dX1_minutesUntilAsleep_13 : decode cX1_minutesUntilAsleep 13 = .ok (.invokevirtual 113, 3) := by decide +kernel
theorem dX1_minutesUntilAsleep_16 : decode cX1_minutesUntilAsleep 16 = .ok (.aload_n 0, 1) := by decide +kernel
theorem dX1_minutesUntilAsleep_17 : decode cX1_minutesUntilAsleep 17 = .ok (.getfield 16, 3) := by decide +kernel
theorem dX1_minutesUntilAsleep_20 : decode cX1_minutesUntilAsleep 20 = .ok (.bipush 100, 2) := by decide +kernel
theorem dX1_minutesUntilAsleep_22 : decode cX1_minutesUntilAsleep 22 = .ok (.invokevirtual 117, 3) := by decide +kernel
theorem dX1_minutesUntilAsleep_25 : decode cX1_minutesUntilAsleep 25 = .ok (.aload_n 0, 1) := by decide +kernel
theorem dX1_minutesUntilAsleep_26 : decode cX1_minutesUntilAsleep 26 = .ok (.iload_n 1, 1) := by decide +kernel
theorem dX1_minutesUntilAsleep_27 : decode cX1_minutesUntilAsleep 27 = .ok (.invokevirtual 120, 3) := by decide +kernel
theorem dX1_minutesUntilAsleep_30 : decode cX1_minutesUntilAsleep 30 = .ok (.ireturn, 1) := by decide +kernel
set_option maxRecDepth 20000 in
theorem ggX1_asleepIn_X1_requireMinutes : GoodIn wsX1_asleepIn wsX1_requireMinutes := goodIn_ca (goodIn_r _ [6, 7, 8] (by decide +kernel) (by decide +kernel)) (goodIn_sub (fun _ h => List.mem_cons_of_mem _ (List.mem_append_right _ h)) (by decide +kernel))
set_option maxRecDepth 20000 in
theorem gX1_asleepIn_X1_requireMinutes : GoodIn wsX1_asleepIn (va_wsS RX1 37 yX1_requireMinutes wsX1_requireMinutes) := goodIn_app (goodIn_of _ (by decide +kernel)) ggX1_asleepIn_X1_requireMinutes
set_option maxRecDepth 20000 in
theorem ggX1_asleepIn_X0_become : GoodIn wsX1_asleepIn wsX0_become := goodIn_r _ [13, 14, 15, 16, 17, 18, 19, 20, 21, 22, 23, 24, 25, 26, 27, 28, 94, 95, 96, 97, 98, 99, 100, 101, 102, 103, 104, 105, 106, 107, 108] (by decide +kernel) (by decide +kernel)
set_option maxRecDepth 20000 in
theorem gX1_asleepIn_X0_become : GoodIn wsX1_asleepIn (wsV RX1 113 RX0 yX0_become wsX0_become) := goodIn_app (goodIn_of _ (by decide +kernel)) ggX1_asleepIn_X0_become
set_option maxRecDepth 20000 in
theorem ggX1_asleepIn_X0_goOn : GoodIn wsX1_asleepIn wsX0_goOn := goodIn_r _ [32, 33, 34, 35, 12, 36, 17, 22, 37, 38, 39, 40, 25, 27, 14, 41, 42, 43, 44, 23, 24, 45, 46, 47, 48, 21, 15, 49, 50, 51, 52, 53, 54, 55, 56, 28, 16, 26, 57, 58, 59, 60, 61, 62, 63, 64, 65, 66, 67, 68, 18, 19, 69, 70, 71, 72, 73, 74, 75, 76, 77, 78, 79, 80, 81, 82, 83, 84, 85, 86, 87, 20, 94, 95, 96, 97, 98, 99, 100, 101, 102, 103, 104, 105, 106, 107, 108] (by decide +kernel) (by decide +kernel)
set_option maxRecDepth 20000 in
theorem gX1_asleepIn_X0_goOn : GoodIn wsX1_asleepIn (wsV RX1 117 RX0 yX0_goOn wsX0_goOn) := goodIn_app (goodIn_of _ (by decide +kernel)) ggX1_asleepIn_X0_goOn
set_option maxRecDepth 20000 in
theorem ggX1_asleepIn_X0_countIn : GoodIn wsX1_asleepIn wsX0_countIn := goodIn_r _ [91, 17, 22, 94, 95, 96, 97, 98, 99, 100, 101, 102, 103, 104, 105, 106, 107, 108] (by decide +kernel) (by decide +kernel)
set_option maxRecDepth 20000 in
theorem gX1_asleepIn_X0_countIn : GoodIn wsX1_asleepIn (wsV RX1 68 RX0 yX0_countIn wsX0_countIn) := goodIn_app (goodIn_of _ (by decide +kernel)) ggX1_asleepIn_X0_countIn
theorem dX1_asleepIn_0 : decode cX1_asleepIn 0 = .ok (.iload_n 1, 1) := by decide +kernel
theorem dX1_asleepIn_1 : decode cX1_asleepIn 1 = .ok (.invokestatic 37, 3) := by decide +kernel
theorem dX1_asleepIn_4 : decode cX1_asleepIn 4 = .ok (.aload_n 0, 1) := by decide +kernel
theorem dX1_asleepIn_5 : decode cX1_asleepIn 5 = .ok (.getfield 16, 3) := by decide +kernel
theorem dX1_asleepIn_8 : decode cX1_asleepIn 8 = .ok (.aload_n 0, 1) := by decide +kernel
theorem dX1_asleepIn_9 : decode cX1_asleepIn 9 = .ok (.getfield 10, 3) := by decide +kernel
theorem dX1_asleepIn_12 : decode cX1_asleepIn 12 = .ok (.invokevirtual 113, 3) := by decide +kernel
theorem dX1_asleepIn_15 : decode cX1_asleepIn 15 = .ok (.aload_n 0, 1) := by decide +kernel
theorem dX1_asleepIn_16 : decode cX1_asleepIn 16 = .ok (.getfield 16, 3) := by decide +kernel
theorem dX1_asleepIn_19 : decode cX1_asleepIn 19 = .ok (.iload_n 1, 1) := by decide +kernel
theorem dX1_asleepIn_20 : decode cX1_asleepIn 20 = .ok (.invokevirtual 117, 3) := by decide +kernel
theorem dX1_asleepIn_23 : decode cX1_asleepIn 23 = .ok (.aload_n 0, 1) := by decide +kernel
theorem dX1_asleepIn_24 : decode cX1_asleepIn 24 = .ok (.getfield 16, 3) := by decide +kernel
theorem dX1_asleepIn_27 : decode cX1_asleepIn 27 = .ok (.iconst 3, 1) := by decide +kernel
theorem dX1_asleepIn_28 : decode cX1_asleepIn 28 = .ok (.invokevirtual 68, 3) := by decide +kernel
theorem dX1_asleepIn_31 : decode cX1_asleepIn 31 = .ok (.ireturn, 1) := by decide +kernel
set_option maxRecDepth 20000 in
theorem ggX1_bestToDeclare_X1_requireTraveller : GoodIn wsX1_bestToDeclare wsX1_requireTraveller := goodIn_ca (goodIn_r _ [9, 10, 11, 1, 12, 13, 14, 15, 16, 17, 98, 99, 100, 101, 102, 103, 104, 105, 106, 107, 108, 109, 110, 111, 112, 113, 114] (by decide +kernel) (by decide +kernel)) (goodIn_sub (fun _ h => List.mem_cons_of_mem _ (List.mem_append_right _ h)) (by decide +kernel))
set_option maxRecDepth 20000 in
theorem gX1_bestToDeclare_X1_requireTraveller : GoodIn wsX1_bestToDeclare (wsV RX1 49 RX1 yX1_requireTraveller wsX1_requireTraveller) := goodIn_app (goodIn_of _ (by decide +kernel)) ggX1_bestToDeclare_X1_requireTraveller
set_option maxRecDepth 20000 in
theorem ggX1_bestToDeclare_X0_become : GoodIn wsX1_bestToDeclare wsX0_become := goodIn_r _ [21, 22, 23, 24, 17, 25, 26, 27, 28, 29, 30, 31, 32, 33, 34, 35, 100, 101, 102, 103, 104, 105, 106, 107, 108, 109, 110, 111, 112, 113, 114] (by decide +kernel) (by decide +kernel)
set_option maxRecDepth 20000 in
theorem gX1_bestToDeclare_X0_become : GoodIn wsX1_bestToDeclare (wsV RX1 113 RX0 yX0_become wsX0_become) := goodIn_app (goodIn_of _ (by decide +kernel)) ggX1_bestToDeclare_X0_become
set_option maxRecDepth 20000 in
theorem ggX1_bestToDeclare_X0_goOn : GoodIn wsX1_bestToDeclare wsX0_goOn := goodIn_r _ [39, 40, 41, 42, 15, 43, 17, 29, 44, 45, 46, 47, 32, 34, 22, 48, 49, 50, 51, 30, 31, 52, 53, 54, 55, 28, 23, 56, 13, 14, 16, 57, 58, 59, 60, 35, 24, 33, 61, 62, 63, 64, 65, 66, 67, 68, 69, 70, 71, 72, 25, 26, 73, 74, 75, 76, 77, 78, 79, 80, 81, 82, 83, 84, 85, 86, 87, 88, 89, 90, 91, 27, 100, 101, 102, 103, 104, 105, 106, 107, 108, 109, 110, 111, 112, 113, 114] (by decide +kernel) (by decide +kernel)
set_option maxRecDepth 20000 in
theorem gX1_bestToDeclare_X0_goOn : GoodIn wsX1_bestToDeclare (wsV RX1 117 RX0 yX0_goOn wsX0_goOn) := goodIn_app (goodIn_of _ (by decide +kernel)) ggX1_bestToDeclare_X0_goOn
set_option maxRecDepth 20000 in
theorem ggX1_bestToDeclare_X1_foreseenSleep : GoodIn wsX1_bestToDeclare wsX1_foreseenSleep := goodIn_r _ [95, 1, 2, 3, 96, 97, 98, 99, 100, 101, 102, 103, 104, 105, 106, 107, 108, 109, 110, 111, 112, 113, 114] (by decide +kernel) (by decide +kernel)
set_option maxRecDepth 20000 in
theorem gX1_bestToDeclare_X1_foreseenSleep : GoodIn wsX1_bestToDeclare (wsV RX1 120 RX1 yX1_foreseenSleep wsX1_foreseenSleep) := goodIn_app (goodIn_of _ (by decide +kernel)) ggX1_bestToDeclare_X1_foreseenSleep
theorem dX1_bestToDeclare_0 : decode cX1_bestToDeclare 0 = .ok (.aload_n 0, 1) := by decide +kernel
theorem dX1_bestToDeclare_1 : decode cX1_bestToDeclare 1 = .ok (.iload_n 1, 1) := by decide +kernel
theorem dX1_bestToDeclare_2 : decode cX1_bestToDeclare 2 = .ok (.invokevirtual 49, 3) := by decide +kernel
theorem dX1_bestToDeclare_5 : decode cX1_bestToDeclare 5 = .ok (.aload_n 0, 1) := by decide +kernel
theorem dX1_bestToDeclare_6 : decode cX1_bestToDeclare 6 = .ok (.getfield 10, 3) := by decide +kernel
theorem dX1_bestToDeclare_9 : decode cX1_bestToDeclare 9 = .ok (.getfield 91, 3) := by decide +kernel
theorem dX1_bestToDeclare_12 : decode cX1_bestToDeclare 12 = .ok (.iload_n 1, 1) := by decide +kernel
theorem dX1_bestToDeclare_13 : decode cX1_bestToDeclare 13 = .ok (.iaload, 1) := by decide +kernel
theorem dX1_bestToDeclare_14 : decode cX1_bestToDeclare 14 = .ok (.ifCond .eq 5, 3) := by decide +kernel
theorem dX1_bestToDeclare_17 : decode cX1_bestToDeclare 17 = .ok (.iconst (-1), 1) := by decide +kernel
theorem dX1_bestToDeclare_18 : decode cX1_bestToDeclare 18 = .ok (.ireturn, 1) := by decide +kernel
theorem dX1_bestToDeclare_19 : decode cX1_bestToDeclare 19 = .ok (.iconst (-1), 1) := by decide +kernel
theorem dX1_bestToDeclare_20 : decode cX1_bestToDeclare 20 = .ok (.istore_n 2, 1) := by decide +kernel
theorem dX1_bestToDeclare_21 : decode cX1_bestToDeclare 21 = .ok (.bipush 101, 2) := by decide +kernel
theorem dX1_bestToDeclare_23 : decode cX1_bestToDeclare 23 = .ok (.istore_n 3, 1) := by decide +kernel
theorem dX1_bestToDeclare_24 : decode cX1_bestToDeclare 24 = .ok (.iconst 0, 1) := by decide +kernel
theorem dX1_bestToDeclare_25 : decode cX1_bestToDeclare 25 = .ok (.istore 4, 2) := by decide +kernel
theorem dX1_bestToDeclare_27 : decode cX1_bestToDeclare 27 = .ok (.iload 4, 2) := by decide +kernel
theorem dX1_bestToDeclare_29 : decode cX1_bestToDeclare 29 = .ok (.bipush 9, 2) := by decide +kernel
theorem dX1_bestToDeclare_31 : decode cX1_bestToDeclare 31 = .ok (.if_icmp .gt 64, 3) := by decide +kernel
theorem dX1_bestToDeclare_34 : decode cX1_bestToDeclare 34 = .ok (.aload_n 0, 1) := by decide +kernel
theorem dX1_bestToDeclare_35 : decode cX1_bestToDeclare 35 = .ok (.getfield 16, 3) := by decide +kernel
theorem dX1_bestToDeclare_38 : decode cX1_bestToDeclare 38 = .ok (.aload_n 0, 1) := by decide +kernel
theorem dX1_bestToDeclare_39 : decode cX1_bestToDeclare 39 = .ok (.getfield 10, 3) := by decide +kernel
theorem dX1_bestToDeclare_42 : decode cX1_bestToDeclare 42 = .ok (.invokevirtual 113, 3) := by decide +kernel
theorem dX1_bestToDeclare_45 : decode cX1_bestToDeclare 45 = .ok (.aload_n 0, 1) := by decide +kernel
theorem dX1_bestToDeclare_46 : decode cX1_bestToDeclare 46 = .ok (.getfield 16, 3) := by decide +kernel
theorem dX1_bestToDeclare_49 : decode cX1_bestToDeclare 49 = .ok (.getfield 55, 3) := by decide +kernel
theorem dX1_bestToDeclare_52 : decode cX1_bestToDeclare 52 = .ok (.iload_n 1, 1) := by decide +kernel
theorem dX1_bestToDeclare_53 : decode cX1_bestToDeclare 53 = .ok (.iload 4, 2) := by decide +kernel
theorem dX1_bestToDeclare_55 : decode cX1_bestToDeclare 55 = .ok (.iastore, 1) := by decide +kernel
theorem dX1_bestToDeclare_56 : decode cX1_bestToDeclare 56 = .ok (.aload_n 0, 1) := by decide +kernel
theorem dX1_bestToDeclare_57 : decode cX1_bestToDeclare 57 = .ok (.getfield 16, 3) := by decide +kernel
theorem dX1_bestToDeclare_60 : decode cX1_bestToDeclare 60 = .ok (.bipush 100, 2) := by decide +kernel
theorem dX1_bestToDeclare_62 : decode cX1_bestToDeclare 62 = .ok (.invokevirtual 117, 3) := by decide +kernel
theorem dX1_bestToDeclare_65 : decode cX1_bestToDeclare 65 = .ok (.aload_n 0, 1) := by decide +kernel
theorem dX1_bestToDeclare_66 : decode cX1_bestToDeclare 66 = .ok (.iload_n 1, 1) := by decide +kernel
theorem dX1_bestToDeclare_67 : decode cX1_bestToDeclare 67 = .ok (.invokevirtual 120, 3) := by decide +kernel
theorem dX1_bestToDeclare_70 : decode cX1_bestToDeclare 70 = .ok (.istore 5, 2) := by decide +kernel
theorem dX1_bestToDeclare_72 : decode cX1_bestToDeclare 72 = .ok (.iload 5, 2) := by decide +kernel
theorem dX1_bestToDeclare_74 : decode cX1_bestToDeclare 74 = .ok (.ifCond .lt 15, 3) := by decide +kernel
theorem dX1_bestToDeclare_77 : decode cX1_bestToDeclare 77 = .ok (.iload 5, 2) := by decide +kernel
theorem dX1_bestToDeclare_79 : decode cX1_bestToDeclare 79 = .ok (.iload_n 3, 1) := by decide +kernel
theorem dX1_bestToDeclare_80 : decode cX1_bestToDeclare 80 = .ok (.if_icmp .ge 9, 3) := by decide +kernel
theorem dX1_bestToDeclare_83 : decode cX1_bestToDeclare 83 = .ok (.iload 4, 2) := by decide +kernel
theorem dX1_bestToDeclare_85 : decode cX1_bestToDeclare 85 = .ok (.istore_n 2, 1) := by decide +kernel
theorem dX1_bestToDeclare_86 : decode cX1_bestToDeclare 86 = .ok (.iload 5, 2) := by decide +kernel
theorem dX1_bestToDeclare_88 : decode cX1_bestToDeclare 88 = .ok (.istore_n 3, 1) := by decide +kernel
theorem dX1_bestToDeclare_89 : decode cX1_bestToDeclare 89 = .ok (.iinc 4 1, 3) := by decide +kernel
theorem dX1_bestToDeclare_92 : decode cX1_bestToDeclare 92 = .ok (.goto (-65), 3) := by decide +kernel
theorem dX1_bestToDeclare_95 : decode cX1_bestToDeclare 95 = .ok (.iload_n 2, 1) := by decide +kernel
theorem dX1_bestToDeclare_96 : decode cX1_bestToDeclare 96 = .ok (.ireturn, 1) := by decide +kernel
set_option maxRecDepth 20000 in
theorem ggX1_guardsWanted_X0_become : GoodIn wsX1_guardsWanted wsX0_become := goodIn_r _ [8, 9, 10, 11, 12, 13, 14, 15, 16, 17, 18, 19, 20, 21, 22, 23, 89, 90, 91, 92, 93, 94, 95, 96, 97, 98, 99, 100, 101, 102, 103] (by decide +kernel) (by decide +kernel)
set_option maxRecDepth 20000 in
theorem gX1_guardsWanted_X0_become : GoodIn wsX1_guardsWanted (wsV RX1 113 RX0 yX0_become wsX0_become) := goodIn_app (goodIn_of _ (by decide +kernel)) ggX1_guardsWanted_X0_become
set_option maxRecDepth 20000 in
theorem ggX1_guardsWanted_X0_admitGuard : GoodIn wsX1_guardsWanted wsX0_admitGuard := goodIn_r _ [27, 20, 21, 22, 23, 89, 90, 91, 92, 93, 94, 95, 96, 97, 98, 99, 100, 101, 102, 103] (by decide +kernel) (by decide +kernel)
set_option maxRecDepth 20000 in
theorem gX1_guardsWanted_X0_admitGuard : GoodIn wsX1_guardsWanted (wsV RX1 30 RX0 yX0_admitGuard wsX0_admitGuard) := goodIn_app (goodIn_of _ (by decide +kernel)) ggX1_guardsWanted_X0_admitGuard
set_option maxRecDepth 20000 in
theorem ggX1_guardsWanted_X0_goOn : GoodIn wsX1_guardsWanted wsX0_goOn := goodIn_r _ [31, 32, 33, 34, 7, 35, 12, 17, 36, 37, 38, 39, 20, 22, 9, 40, 41, 42, 43, 18, 19, 44, 45, 46, 47, 16, 10, 48, 49, 50, 51, 52, 53, 54, 55, 23, 11, 21, 56, 57, 58, 59, 60, 61, 62, 63, 64, 65, 66, 67, 13, 14, 68, 69, 70, 71, 72, 73, 74, 75, 76, 77, 78, 79, 80, 81, 82, 83, 84, 85, 86, 15, 89, 90, 91, 92, 93, 94, 95, 96, 97, 98, 99, 100, 101, 102, 103] (by decide +kernel) (by decide +kernel)
set_option maxRecDepth 20000 in
theorem gX1_guardsWanted_X0_goOn : GoodIn wsX1_guardsWanted (wsV RX1 117 RX0 yX0_goOn wsX0_goOn) := goodIn_app (goodIn_of _ (by decide +kernel)) ggX1_guardsWanted_X0_goOn
theorem dX1_guardsWanted_0 : decode cX1_guardsWanted 0 = .ok (.iconst 0, 1) := by decide +kernel
theorem dX1_guardsWanted_1 : decode cX1_guardsWanted 1 = .ok (.istore_n 1, 1) := by decide +kernel
theorem dX1_guardsWanted_2 : decode cX1_guardsWanted 2 = .ok (.iload_n 1, 1) := by decide +kernel
theorem dX1_guardsWanted_3 : decode cX1_guardsWanted 3 = .ok (.iconst 4, 1) := by decide +kernel
theorem dX1_guardsWanted_4 : decode cX1_guardsWanted 4 = .ok (.if_icmp .gt 68, 3) := by decide +kernel
theorem dX1_guardsWanted_7 : decode cX1_guardsWanted 7 = .ok (.aload_n 0, 1) := by decide +kernel
theorem dX1_guardsWanted_8 : decode cX1_guardsWanted 8 = .ok (.getfield 16, 3) := by decide +kernel
theorem dX1_guardsWanted_11 : decode cX1_guardsWanted 11 = .ok (.aload_n 0, 1) := by decide +kernel
theorem dX1_guardsWanted_12 : decode cX1_guardsWanted 12 = .ok (.getfield 10, 3) := by decide +kernel
theorem dX1_guardsWanted_15 : decode cX1_guardsWanted 15 = .ok (.invokevirtual 113, 3) := by decide +kernel
theorem dX1_guardsWanted_18 : decode cX1_guardsWanted 18 = .ok (.iconst 0, 1) := by decide +kernel
theorem dX1_guardsWanted_19 : decode cX1_guardsWanted 19 = .ok (.istore_n 2, 1) := by decide +kernel
theorem dX1_guardsWanted_20 : decode cX1_guardsWanted 20 = .ok (.iload_n 2, 1) := by decide +kernel
theorem dX1_guardsWanted_21 : decode cX1_guardsWanted 21 = .ok (.iload_n 1, 1) := by decide +kernel
theorem dX1_guardsWanted_22 : decode cX1_guardsWanted 22 = .ok (.if_icmp .ge 16, 3) := by decide +kernel
theorem dX1_guardsWanted_25 : decode cX1_guardsWanted 25 = .ok (.aload_n 0, 1) := by decide +kernel
theorem dX1_guardsWanted_26 : decode cX1_guardsWanted 26 = .ok (.getfield 16, 3) := by decide +kernel
theorem dX1_guardsWanted_29 : decode cX1_guardsWanted 29 = .ok (.invokevirtual 30, 3) := by decide +kernel
theorem dX1_guardsWanted_32 : decode cX1_guardsWanted 32 = .ok (.iinc 2 1, 3) := by decide +kernel
theorem dX1_guardsWanted_35 : decode cX1_guardsWanted 35 = .ok (.goto (-15), 3) := by decide +kernel
theorem dX1_guardsWanted_38 : decode cX1_guardsWanted 38 = .ok (.aload_n 0, 1) := by decide +kernel
theorem dX1_guardsWanted_39 : decode cX1_guardsWanted 39 = .ok (.getfield 16, 3) := by decide +kernel
theorem dX1_guardsWanted_42 : decode cX1_guardsWanted 42 = .ok (.bipush 60, 2) := by decide +kernel
theorem dX1_guardsWanted_44 : decode cX1_guardsWanted 44 = .ok (.invokevirtual 117, 3) := by decide +kernel
theorem dX1_guardsWanted_47 : decode cX1_guardsWanted 47 = .ok (.aload_n 0, 1) := by decide +kernel
theorem dX1_guardsWanted_48 : decode cX1_guardsWanted 48 = .ok (.getfield 16, 3) := by decide +kernel
theorem dX1_guardsWanted_51 : decode cX1_guardsWanted 51 = .ok (.getfield 78, 3) := by decide +kernel
theorem dX1_guardsWanted_54 : decode cX1_guardsWanted 54 = .ok (.aload_n 0, 1) := by decide +kernel
theorem dX1_guardsWanted_55 : decode cX1_guardsWanted 55 = .ok (.getfield 10, 3) := by decide +kernel
theorem dX1_guardsWanted_58 : decode cX1_guardsWanted 58 = .ok (.getfield 78, 3) := by decide +kernel
theorem dX1_guardsWanted_61 : decode cX1_guardsWanted 61 = .ok (.if_icmp .ne 5, 3) := by decide +kernel
theorem dX1_guardsWanted_64 : decode cX1_guardsWanted 64 = .ok (.iload_n 1, 1) := by decide +kernel
theorem dX1_guardsWanted_65 : decode cX1_guardsWanted 65 = .ok (.ireturn, 1) := by decide +kernel
theorem dX1_guardsWanted_66 : decode cX1_guardsWanted 66 = .ok (.iinc 1 1, 3) := by decide +kernel
theorem dX1_guardsWanted_69 : decode cX1_guardsWanted 69 = .ok (.goto (-67), 3) := by decide +kernel
theorem dX1_guardsWanted_72 : decode cX1_guardsWanted 72 = .ok (.iconst (-1), 1) := by decide +kernel
theorem dX1_guardsWanted_73 : decode cX1_guardsWanted 73 = .ok (.ireturn, 1) := by decide +kernel
theorem dX1_meanAlertness_0 : decode cX1_meanAlertness 0 = .ok (.aload_n 0, 1) := by decide +kernel
theorem dX1_meanAlertness_1 : decode cX1_meanAlertness 1 = .ok (.getfield 10, 3) := by decide +kernel
theorem dX1_meanAlertness_4 : decode cX1_meanAlertness 4 = .ok (.getfield 19, 3) := by decide +kernel
theorem dX1_meanAlertness_7 : decode cX1_meanAlertness 7 = .ok (.ifCond .ne 5, 3) := by decide +kernel
theorem dX1_meanAlertness_10 : decode cX1_meanAlertness 10 = .ok (.dconst 0, 1) := by decide +kernel
theorem dX1_meanAlertness_11 : decode cX1_meanAlertness 11 = .ok (.dreturn, 1) := by decide +kernel
theorem dX1_meanAlertness_12 : decode cX1_meanAlertness 12 = .ok (.iconst 0, 1) := by decide +kernel
theorem dX1_meanAlertness_13 : decode cX1_meanAlertness 13 = .ok (.istore_n 1, 1) := by decide +kernel
theorem dX1_meanAlertness_14 : decode cX1_meanAlertness 14 = .ok (.iconst 0, 1) := by decide +kernel
theorem dX1_meanAlertness_15 : decode cX1_meanAlertness 15 = .ok (.istore_n 2, 1) := by decide +kernel
theorem dX1_meanAlertness_16 : decode cX1_meanAlertness 16 = .ok (.iload_n 2, 1) := by decide +kernel
theorem dX1_meanAlertness_17 : decode cX1_meanAlertness 17 = .ok (.aload_n 0, 1) := by decide +kernel
theorem dX1_meanAlertness_18 : decode cX1_meanAlertness 18 = .ok (.getfield 10, 3) := by decide +kernel
theorem dX1_meanAlertness_21 : decode cX1_meanAlertness 21 = .ok (.getfield 19, 3) := by decide +kernel
theorem dX1_meanAlertness_24 : decode cX1_meanAlertness 24 = .ok (.if_icmp .ge 21, 3) := by decide +kernel
theorem dX1_meanAlertness_27 : decode cX1_meanAlertness 27 = .ok (.iload_n 1, 1) := by decide +kernel
theorem dX1_meanAlertness_28 : decode cX1_meanAlertness 28 = .ok (.aload_n 0, 1) := by decide +kernel
theorem dX1_meanAlertness_29 : decode cX1_meanAlertness 29 = .ok (.getfield 10, 3) := by decide +kernel
theorem dX1_meanAlertness_32 : decode cX1_meanAlertness 32 = .ok (.getfield 65, 3) := by decide +kernel
theorem dX1_meanAlertness_35 : decode cX1_meanAlertness 35 = .ok (.iload_n 2, 1) := by decide +kernel
theorem dX1_meanAlertness_36 : decode cX1_meanAlertness 36 = .ok (.iaload, 1) := by decide +kernel
theorem dX1_meanAlertness_37 : decode cX1_meanAlertness 37 = .ok (.iadd, 1) := by decide +kernel
theorem dX1_meanAlertness_38 : decode cX1_meanAlertness 38 = .ok (.istore_n 1, 1) := by decide +kernel
theorem dX1_meanAlertness_39 : decode cX1_meanAlertness 39 = .ok (.iinc 2 1, 3) := by decide +kernel
theorem dX1_meanAlertness_42 : decode cX1_meanAlertness 42 = .ok (.goto (-26), 3) := by decide +kernel
theorem dX1_meanAlertness_45 : decode cX1_meanAlertness 45 = .ok (.iload_n 1, 1) := by decide +kernel
theorem dX1_meanAlertness_46 : decode cX1_meanAlertness 46 = .ok (.i2d, 1) := by decide +kernel
theorem dX1_meanAlertness_47 : decode cX1_meanAlertness 47 = .ok (.aload_n 0, 1) := by decide +kernel
theorem dX1_meanAlertness_48 : decode cX1_meanAlertness 48 = .ok (.getfield 10, 3) := by decide +kernel
theorem dX1_meanAlertness_51 : decode cX1_meanAlertness 51 = .ok (.getfield 19, 3) := by decide +kernel
theorem dX1_meanAlertness_54 : decode cX1_meanAlertness 54 = .ok (.i2d, 1) := by decide +kernel
theorem dX1_meanAlertness_55 : decode cX1_meanAlertness 55 = .ok (.ddiv, 1) := by decide +kernel
theorem dX1_meanAlertness_56 : decode cX1_meanAlertness 56 = .ok (.dreturn, 1) := by decide +kernel
set_option maxRecDepth 20000 in
theorem ggX1_digest_X1_minute : GoodIn wsX1_digest wsX1_minute := goodIn_r _ [6, 7, 8, 231, 232, 233, 234, 235, 236, 237, 238, 239, 240, 241, 242, 243, 244, 245, 246, 247] (by decide +kernel) (by decide +kernel)
set_option maxRecDepth 20000 in
theorem gX1_digest_X1_minute : GoodIn wsX1_digest (wsV RX1 125 RX1 yX1_minute wsX1_minute) := goodIn_app (goodIn_of _ (by decide +kernel)) ggX1_digest_X1_minute
set_option maxRecDepth 20000 in
theorem ggX1_digest_X1_mix : GoodIn wsX1_digest wsX1_mix := goodIn_r _ [11, 12] (by decide +kernel) (by decide +kernel)
set_option maxRecDepth 20000 in
theorem gX1_digest_X1_mix : GoodIn wsX1_digest (va_wsS RX1 128 yX1_mix wsX1_mix) := goodIn_app (goodIn_of _ (by decide +kernel)) ggX1_digest_X1_mix
set_option maxRecDepth 20000 in
theorem ggX1_digest_X1_travellers : GoodIn wsX1_digest wsX1_travellers := goodIn_r _ [16, 7, 17, 231, 232, 233, 234, 235, 236, 237, 238, 239, 240, 241, 242, 243, 244, 245, 246, 247] (by decide +kernel) (by decide +kernel)
set_option maxRecDepth 20000 in
theorem gX1_digest_X1_travellers : GoodIn wsX1_digest (wsV RX1 132 RX1 yX1_travellers wsX1_travellers) := goodIn_app (goodIn_of _ (by decide +kernel)) ggX1_digest_X1_travellers
set_option maxRecDepth 20000 in
theorem ggX1_digest_X1_waiting : GoodIn wsX1_digest wsX1_waiting := goodIn_r _ [21, 7, 22, 23, 24, 25, 26, 27, 28, 231, 232, 233, 234, 235, 236, 237, 238, 239, 240, 241, 242, 243, 244, 245, 246, 247] (by decide +kernel) (by decide +kernel)
set_option maxRecDepth 20000 in
theorem gX1_digest_X1_waiting : GoodIn wsX1_digest (wsV RX1 135 RX1 yX1_waiting wsX1_waiting) := goodIn_app (goodIn_of _ (by decide +kernel)) ggX1_digest_X1_waiting
set_option maxRecDepth 20000 in
theorem ggX1_digest_X1_asleep : GoodIn wsX1_digest wsX1_asleep := goodIn_r _ [32, 7, 22, 23, 24, 25, 26, 27, 28, 231, 232, 233, 234, 235, 236, 237, 238, 239, 240, 241, 242, 243, 244, 245, 246, 247] (by decide +kernel) (by decide +kernel)
set_option maxRecDepth 20000 in
theorem gX1_digest_X1_asleep : GoodIn wsX1_digest (wsV RX1 138 RX1 yX1_asleep wsX1_asleep) := goodIn_app (goodIn_of _ (by decide +kernel)) ggX1_digest_X1_asleep
set_option maxRecDepth 20000 in
theorem ggX1_digest_X1_sentBack : GoodIn wsX1_digest wsX1_sentBack := goodIn_r _ [36, 7, 22, 23, 24, 25, 26, 27, 28, 231, 232, 233, 234, 235, 236, 237, 238, 239, 240, 241, 242, 243, 244, 245, 246, 247] (by decide +kernel) (by decide +kernel)
set_option maxRecDepth 20000 in
theorem gX1_digest_X1_sentBack : GoodIn wsX1_digest (wsV RX1 141 RX1 yX1_sentBack wsX1_sentBack) := goodIn_app (goodIn_of _ (by decide +kernel)) ggX1_digest_X1_sentBack
set_option maxRecDepth 20000 in
theorem ggX1_digest_X1_expired : GoodIn wsX1_digest wsX1_expired := goodIn_r _ [40, 7, 41, 231, 232, 233, 234, 235, 236, 237, 238, 239, 240, 241, 242, 243, 244, 245, 246, 247] (by decide +kernel) (by decide +kernel)
set_option maxRecDepth 20000 in
theorem gX1_digest_X1_expired : GoodIn wsX1_digest (wsV RX1 144 RX1 yX1_expired wsX1_expired) := goodIn_app (goodIn_of _ (by decide +kernel)) ggX1_digest_X1_expired
set_option maxRecDepth 20000 in
theorem ggX1_digest_X1_paid : GoodIn wsX1_digest wsX1_paid := goodIn_r _ [45, 7, 46, 231, 232, 233, 234, 235, 236, 237, 238, 239, 240, 241, 242, 243, 244, 245, 246, 247] (by decide +kernel) (by decide +kernel)
set_option maxRecDepth 20000 in
theorem gX1_digest_X1_paid : GoodIn wsX1_digest (wsV RX1 147 RX1 yX1_paid wsX1_paid) := goodIn_app (goodIn_of _ (by decide +kernel)) ggX1_digest_X1_paid
set_option maxRecDepth 20000 in
theorem ggX1_digest_X1_noise : GoodIn wsX1_digest wsX1_noise := goodIn_r _ [50, 7, 51, 52, 53, 25, 54, 27, 28, 55, 231, 232, 233, 234, 235, 236, 237, 238, 239, 240, 241, 242, 243, 244, 245, 246, 247] (by decide +kernel) (by decide +kernel)
set_option maxRecDepth 20000 in
theorem gX1_digest_X1_noise : GoodIn wsX1_digest (wsV RX1 150 RX1 yX1_noise wsX1_noise) := goodIn_app (goodIn_of _ (by decide +kernel)) ggX1_digest_X1_noise
set_option maxRecDepth 20000 in
theorem ggX1_digest_X1_nextInLine : GoodIn wsX1_digest wsX1_nextInLine := goodIn_r _ [59, 7, 60, 61, 62, 25, 63, 27, 28, 231, 232, 233, 234, 235, 236, 237, 238, 239, 240, 241, 242, 243, 244, 245, 246, 247] (by decide +kernel) (by decide +kernel)
set_option maxRecDepth 20000 in
theorem gX1_digest_X1_nextInLine : GoodIn wsX1_digest (wsV RX1 153 RX1 yX1_nextInLine wsX1_nextInLine) := goodIn_app (goodIn_of _ (by decide +kernel)) ggX1_digest_X1_nextInLine
set_option maxRecDepth 20000 in
theorem ggX1_digest_X1_guards : GoodIn wsX1_digest wsX1_guards := goodIn_r _ [67, 7, 68, 231, 232, 233, 234, 235, 236, 237, 238, 239, 240, 241, 242, 243, 244, 245, 246, 247] (by decide +kernel) (by decide +kernel)
set_option maxRecDepth 20000 in
theorem gX1_digest_X1_guards : GoodIn wsX1_digest (wsV RX1 156 RX1 yX1_guards wsX1_guards) := goodIn_app (goodIn_of _ (by decide +kernel)) ggX1_digest_X1_guards
set_option maxRecDepth 20000 in
theorem ggX1_digest_X1_mostAlert : GoodIn wsX1_digest wsX1_mostAlert := goodIn_r _ [72, 7, 68, 73, 231, 232, 233, 234, 235, 236, 237, 238, 239, 240, 241, 242, 243, 244, 245, 246, 247] (by decide +kernel) (by decide +kernel)
set_option maxRecDepth 20000 in
theorem gX1_digest_X1_mostAlert : GoodIn wsX1_digest (wsV RX1 159 RX1 yX1_mostAlert wsX1_mostAlert) := goodIn_app (goodIn_of _ (by decide +kernel)) ggX1_digest_X1_mostAlert
set_option maxRecDepth 20000 in
theorem ggX1_digest_X1_asleepIn : GoodIn wsX1_digest wsX1_asleepIn := goodIn_ca (goodIn_r _ [77, 78, 7, 79, 80, 5, 81, 82, 83, 84, 85, 86, 25, 87, 88, 89, 90, 27, 91, 92, 55, 93, 28, 94, 95, 96, 97, 98, 99, 100, 101, 102, 103, 104, 105, 106, 107, 108, 109, 110, 111, 112, 113, 114, 115, 116, 117, 118, 119, 120, 121, 122, 123, 124, 125, 126, 127, 128, 129, 130, 131, 132, 133, 134, 135, 136, 137, 138, 139, 140, 141, 142, 143, 144, 145, 146, 147, 61, 62, 63, 148, 149, 150, 151, 152, 52, 53, 54, 22, 23, 24, 26, 231, 232, 233, 234, 235, 236, 237, 238, 239, 240, 241, 242, 243, 244, 245, 246, 247] (by decide +kernel) (by decide +kernel)) (goodIn_sub (fun _ h => List.mem_cons_of_mem _ (List.mem_append_left _ (List.mem_append_right _ h))) (by decide +kernel))
set_option maxRecDepth 20000 in
theorem gX1_digest_X1_asleepIn : GoodIn wsX1_digest (wsV RX1 162 RX1 yX1_asleepIn wsX1_asleepIn) := goodIn_app (goodIn_of _ (by decide +kernel)) ggX1_digest_X1_asleepIn
set_option maxRecDepth 20000 in
theorem ggX1_digest_X1_guardsWanted : GoodIn wsX1_digest wsX1_guardsWanted := goodIn_r _ [156, 78, 7, 41, 84, 85, 86, 25, 87, 88, 89, 90, 27, 91, 92, 55, 93, 28, 94, 95, 96, 97, 98, 99, 157, 158, 159, 160, 100, 101, 102, 103, 104, 105, 106, 107, 108, 109, 110, 111, 112, 113, 114, 115, 116, 117, 118, 119, 120, 121, 122, 123, 124, 125, 126, 127, 128, 129, 130, 131, 132, 133, 134, 135, 136, 137, 138, 139, 140, 141, 142, 143, 144, 145, 146, 147, 61, 62, 63, 148, 149, 150, 151, 152, 52, 53, 54, 231, 232, 233, 234, 235, 236, 237, 238, 239, 240, 241, 242, 243, 244, 245, 246, 247] (by decide +kernel) (by decide +kernel)
set_option maxRecDepth 20000 in
theorem gX1_digest_X1_guardsWanted : GoodIn wsX1_digest (wsV RX1 165 RX1 yX1_guardsWanted wsX1_guardsWanted) := goodIn_app (goodIn_of _ (by decide +kernel)) ggX1_digest_X1_guardsWanted
set_option maxRecDepth 20000 in
theorem ggX1_digest_X1_mixTravellers : GoodIn wsX1_digest wsX1_mixTravellers := goodIn_ca (goodIn_r _ [164, 78, 7, 17, 84, 85, 86, 25, 87, 88, 89, 90, 27, 91, 92, 55, 93, 28, 94, 95, 96, 97, 98, 99, 100, 101, 102, 103, 104, 105, 106, 107, 108, 109, 110, 111, 112, 113, 114, 115, 116, 117, 118, 119, 120, 121, 122, 123, 124, 125, 126, 127, 128, 129, 130, 131, 132, 133, 134, 135, 136, 137, 138, 139, 140, 141, 142, 143, 144, 145, 146, 147, 61, 62, 63, 148, 149, 150, 151, 152, 52, 53, 54, 165, 166, 167, 5, 168, 169, 170, 171, 172, 173, 174, 175, 176, 9, 10, 11, 12, 177, 178, 179, 180, 181, 182, 183, 184, 185, 186, 187, 188, 189, 190, 191, 192, 193, 194, 195, 196, 197, 198, 199, 200, 201, 202, 203, 204, 8, 231, 232, 233, 234, 235, 236, 237, 238, 239, 240, 241, 242, 243, 244, 245, 246, 247] (by decide +kernel) (by decide +kernel)) (goodIn_sub (fun _ h => List.mem_cons_of_mem _ (List.mem_append_right _ h)) (by decide +kernel))
set_option maxRecDepth 20000 in
theorem gX1_digest_X1_mixTravellers : GoodIn wsX1_digest (wsV RX1 168 RX1 yX1_mixTravellers wsX1_mixTravellers) := goodIn_app (goodIn_of _ (by decide +kernel)) ggX1_digest_X1_mixTravellers
set_option maxRecDepth 20000 in
theorem ggX1_digest_X1_mixGuards : GoodIn wsX1_digest wsX1_mixGuards := goodIn_ca (goodIn_r _ [208, 7, 68, 209, 210, 211, 5, 212, 73, 213, 214, 215, 216, 174, 175, 217, 218, 219, 25, 220, 96, 9, 10, 11, 12, 221, 222, 223, 224, 225, 226, 227, 228, 229, 230, 231, 232, 233, 234, 235, 236, 237, 238, 239, 240, 241, 242, 243, 244, 245, 246, 247] (by decide +kernel) (by decide +kernel)) (goodIn_sub (fun _ h => List.mem_cons_of_mem _ (List.mem_append_right _ h)) (by decide +kernel))
set_option maxRecDepth 20000 in
theorem gX1_digest_X1_mixGuards : GoodIn wsX1_digest (wsV RX1 172 RX1 yX1_mixGuards wsX1_mixGuards) := goodIn_app (goodIn_of _ (by decide +kernel)) ggX1_digest_X1_mixGuards
theorem dX1_digest_0 : decode cX1_digest 0 = .ok (.ldc2_w 123, 3) := by decide +kernel
theorem dX1_digest_3 : decode cX1_digest 3 = .ok (.lstore_n 1, 1) := by decide +kernel
theorem dX1_digest_4 : decode cX1_digest 4 = .ok (.lload_n 1, 1) := by decide +kernel
theorem dX1_digest_5 : decode cX1_digest 5 = .ok (.aload_n 0, 1) := by decide +kernel
theorem dX1_digest_6 : decode cX1_digest 6 = .ok (.invokevirtual 125, 3) := by decide +kernel
theorem dX1_digest_9 : decode cX1_digest 9 = .ok (.invokestatic 128, 3) := by decide +kernel
theorem dX1_digest_12 : decode cX1_digest 12 = .ok (.lstore_n 1, 1) := by decide +kernel
theorem dX1_digest_13 : decode cX1_digest 13 = .ok (.lload_n 1, 1) := by decide +kernel
theorem dX1_digest_14 : decode cX1_digest 14 = .ok (.aload_n 0, 1) := by decide +kernel
theorem dX1_digest_15 : decode cX1_digest 15 = .ok (.invokevirtual 132, 3) := by decide +kernel
theorem dX1_digest_18 : decode cX1_digest 18 = .ok (.invokestatic 128, 3) := by decide +kernel
theorem dX1_digest_21 : decode cX1_digest 21 = .ok (.lstore_n 1, 1) := by decide +kernel
theorem dX1_digest_22 : decode cX1_digest 22 = .ok (.lload_n 1, 1) := by decide +kernel
theorem dX1_digest_23 : decode cX1_digest 23 = .ok (.aload_n 0, 1) := by decide +kernel
theorem dX1_digest_24 : decode cX1_digest 24 = .ok (.invokevirtual 135, 3) := by decide +kernel
theorem dX1_digest_27 : decode cX1_digest 27 = .ok (.invokestatic 128, 3) := by decide +kernel
theorem dX1_digest_30 : decode cX1_digest 30 = .ok (.lstore_n 1, 1) := by decide +kernel
theorem dX1_digest_31 : decode cX1_digest 31 = .ok (.lload_n 1, 1) := by decide +kernel
theorem dX1_digest_32 : decode cX1_digest 32 = .ok (.aload_n 0, 1) := by decide +kernel
theorem dX1_digest_33 : decode cX1_digest 33 = .ok (.invokevirtual 138, 3) := by decide +kernel
theorem dX1_digest_36 : decode cX1_digest 36 = .ok (.invokestatic 128, 3) := by decide +kernel
theorem dX1_digest_39 : decode cX1_digest 39 = .ok (.lstore_n 1, 1) := by decide +kernel
theorem dX1_digest_40 : decode cX1_digest 40 = .ok (.lload_n 1, 1) := by decide +kernel
theorem dX1_digest_41 : decode cX1_digest 41 = .ok (.aload_n 0, 1) := by decide +kernel
theorem dX1_digest_42 : decode cX1_digest 42 = .ok (.invokevirtual 141, 3) := by decide +kernel
theorem dX1_digest_45 : decode cX1_digest 45 = .ok (.invokestatic 128, 3) := by decide +kernel
theorem dX1_digest_48 : decode cX1_digest 48 = .ok (.lstore_n 1, 1) := by decide +kernel
theorem dX1_digest_49 : decode cX1_digest 49 = .ok (.lload_n 1, 1) := by decide +kernel
theorem dX1_digest_50 : decode cX1_digest 50 = .ok (.aload_n 0, 1) := by decide +kernel
theorem dX1_digest_51 : decode cX1_digest 51 = .ok (.invokevirtual 144, 3) := by decide +kernel
theorem dX1_digest_54 : decode cX1_digest 54 = .ok (.invokestatic 128, 3) := by decide +kernel
theorem dX1_digest_57 : decode cX1_digest 57 = .ok (.lstore_n 1, 1) := by decide +kernel
theorem dX1_digest_58 : decode cX1_digest 58 = .ok (.lload_n 1, 1) := by decide +kernel
theorem dX1_digest_59 : decode cX1_digest 59 = .ok (.aload_n 0, 1) := by decide +kernel
theorem dX1_digest_60 : decode cX1_digest 60 = .ok (.invokevirtual 147, 3) := by decide +kernel
theorem dX1_digest_63 : decode cX1_digest 63 = .ok (.invokestatic 128, 3) := by decide +kernel
theorem dX1_digest_66 : decode cX1_digest 66 = .ok (.lstore_n 1, 1) := by decide +kernel
theorem dX1_digest_67 : decode cX1_digest 67 = .ok (.lload_n 1, 1) := by decide +kernel
theorem dX1_digest_68 : decode cX1_digest 68 = .ok (.aload_n 0, 1) := by decide +kernel
theorem dX1_digest_69 : decode cX1_digest 69 = .ok (.invokevirtual 150, 3) := by decide +kernel
theorem dX1_digest_72 : decode cX1_digest 72 = .ok (.invokestatic 128, 3) := by decide +kernel
theorem dX1_digest_75 : decode cX1_digest 75 = .ok (.lstore_n 1, 1) := by decide +kernel
theorem dX1_digest_76 : decode cX1_digest 76 = .ok (.lload_n 1, 1) := by decide +kernel
theorem dX1_digest_77 : decode cX1_digest 77 = .ok (.aload_n 0, 1) := by decide +kernel
theorem dX1_digest_78 : decode cX1_digest 78 = .ok (.invokevirtual 153, 3) := by decide +kernel
theorem dX1_digest_81 : decode cX1_digest 81 = .ok (.invokestatic 128, 3) := by decide +kernel
theorem dX1_digest_84 : decode cX1_digest 84 = .ok (.lstore_n 1, 1) := by decide +kernel
theorem dX1_digest_85 : decode cX1_digest 85 = .ok (.lload_n 1, 1) := by decide +kernel
theorem dX1_digest_86 : decode cX1_digest 86 = .ok (.aload_n 0, 1) := by decide +kernel
theorem dX1_digest_87 : decode cX1_digest 87 = .ok (.invokevirtual 156, 3) := by decide +kernel
theorem dX1_digest_90 : decode cX1_digest 90 = .ok (.invokestatic 128, 3) := by decide +kernel
theorem dX1_digest_93 : decode cX1_digest 93 = .ok (.lstore_n 1, 1) := by decide +kernel
theorem dX1_digest_94 : decode cX1_digest 94 = .ok (.lload_n 1, 1) := by decide +kernel
theorem dX1_digest_95 : decode cX1_digest 95 = .ok (.aload_n 0, 1) := by decide +kernel
theorem dX1_digest_96 : decode cX1_digest 96 = .ok (.invokevirtual 159, 3) := by decide +kernel
theorem dX1_digest_99 : decode cX1_digest 99 = .ok (.invokestatic 128, 3) := by decide +kernel
theorem dX1_digest_102 : decode cX1_digest 102 = .ok (.lstore_n 1, 1) := by decide +kernel
theorem dX1_digest_103 : decode cX1_digest 103 = .ok (.lload_n 1, 1) := by decide +kernel
theorem dX1_digest_104 : decode cX1_digest 104 = .ok (.aload_n 0, 1) := by decide +kernel
theorem dX1_digest_105 : decode cX1_digest 105 = .ok (.bipush 30, 2) := by decide +kernel
theorem dX1_digest_107 : decode cX1_digest 107 = .ok (.invokevirtual 162, 3) := by decide +kernel
theorem dX1_digest_110 : decode cX1_digest 110 = .ok (.invokestatic 128, 3) := by decide +kernel
theorem dX1_digest_113 : decode cX1_digest 113 = .ok (.lstore_n 1, 1) := by decide +kernel
theorem dX1_digest_114 : decode cX1_digest 114 = .ok (.lload_n 1, 1) := by decide +kernel
theorem dX1_digest_115 : decode cX1_digest 115 = .ok (.aload_n 0, 1) := by decide +kernel
theorem dX1_digest_116 : decode cX1_digest 116 = .ok (.invokevirtual 165, 3) := by decide +kernel
theorem dX1_digest_119 : decode cX1_digest 119 = .ok (.invokestatic 128, 3) := by decide +kernel
theorem dX1_digest_122 : decode cX1_digest 122 = .ok (.lstore_n 1, 1) := by decide +kernel
theorem dX1_digest_123 : decode cX1_digest 123 = .ok (.aload_n 0, 1) := by decide +kernel
theorem dX1_digest_124 : decode cX1_digest 124 = .ok (.aload_n 0, 1) := by decide +kernel
theorem dX1_digest_125 : decode cX1_digest 125 = .ok (.lload_n 1, 1) := by decide +kernel
theorem dX1_digest_126 : decode cX1_digest 126 = .ok (.invokevirtual 168, 3) := by decide +kernel
theorem dX1_digest_129 : decode cX1_digest 129 = .ok (.invokevirtual 172, 3) := by decide +kernel
theorem dX1_digest_132 : decode cX1_digest 132 = .ok (.lreturn, 1) := by decide +kernel
set_option maxRecDepth 20000 in
theorem ggX1_mixTravellers_X0_become : GoodIn wsX1_mixTravellers wsX0_become := goodIn_r _ [8, 9, 10, 11, 12, 13, 14, 15, 16, 17, 18, 19, 20, 21, 22, 23, 131, 132, 133, 134, 135, 136, 137, 138, 139, 140, 141, 142, 143, 144, 145] (by decide +kernel) (by decide +kernel)
set_option maxRecDepth 20000 in
theorem gX1_mixTravellers_X0_become : GoodIn wsX1_mixTravellers (wsV RX1 113 RX0 yX0_become wsX0_become) := goodIn_app (goodIn_of _ (by decide +kernel)) ggX1_mixTravellers_X0_become
set_option maxRecDepth 20000 in
theorem ggX1_mixTravellers_X0_goOn : GoodIn wsX1_mixTravellers wsX0_goOn := goodIn_r _ [27, 28, 29, 30, 7, 31, 12, 17, 32, 33, 34, 35, 20, 22, 9, 36, 37, 38, 39, 18, 19, 40, 41, 42, 43, 16, 10, 44, 45, 46, 47, 48, 49, 50, 51, 23, 11, 21, 52, 53, 54, 55, 56, 57, 58, 59, 60, 61, 62, 63, 13, 14, 64, 65, 66, 67, 68, 69, 70, 71, 72, 73, 74, 75, 76, 77, 78, 79, 80, 81, 82, 15, 131, 132, 133, 134, 135, 136, 137, 138, 139, 140, 141, 142, 143, 144, 145] (by decide +kernel) (by decide +kernel)
set_option maxRecDepth 20000 in
theorem gX1_mixTravellers_X0_goOn : GoodIn wsX1_mixTravellers (wsV RX1 117 RX0 yX0_goOn wsX0_goOn) := goodIn_app (goodIn_of _ (by decide +kernel)) ggX1_mixTravellers_X0_goOn
set_option maxRecDepth 20000 in
theorem ggX1_mixTravellers_X1_stateOf : GoodIn wsX1_mixTravellers wsX1_stateOf := goodIn_ca (goodIn_r _ [87, 2, 88, 89, 90, 91, 86, 92, 93, 94, 95, 45, 46, 7, 47, 12, 129, 130, 131, 132, 133, 134, 135, 136, 137, 138, 139, 140, 141, 142, 143, 144, 145] (by decide +kernel) (by decide +kernel)) (goodIn_sub (fun _ h => List.mem_cons_of_mem _ (List.mem_append_right _ h)) (by decide +kernel))
set_option maxRecDepth 20000 in
theorem gX1_mixTravellers_X1_stateOf : GoodIn wsX1_mixTravellers (wsV RX1 175 RX1 yX1_stateOf wsX1_stateOf) := goodIn_app (goodIn_of _ (by decide +kernel)) ggX1_mixTravellers_X1_stateOf
set_option maxRecDepth 20000 in
theorem ggX1_mixTravellers_X1_mix : GoodIn wsX1_mixTravellers wsX1_mix := goodIn_r _ [98, 99] (by decide +kernel) (by decide +kernel)
set_option maxRecDepth 20000 in
theorem gX1_mixTravellers_X1_mix : GoodIn wsX1_mixTravellers (va_wsS RX1 128 yX1_mix wsX1_mix) := goodIn_app (goodIn_of _ (by decide +kernel)) ggX1_mixTravellers_X1_mix
set_option maxRecDepth 20000 in
theorem ggX1_mixTravellers_X1_hiddenOf : GoodIn wsX1_mixTravellers wsX1_hiddenOf := goodIn_ca (goodIn_r _ [103, 2, 89, 90, 91, 86, 92, 93, 94, 95, 45, 46, 7, 47, 12, 104, 61, 62, 63, 13, 14, 129, 130, 131, 132, 133, 134, 135, 136, 137, 138, 139, 140, 141, 142, 143, 144, 145] (by decide +kernel) (by decide +kernel)) (goodIn_sub (fun _ h => List.mem_cons_of_mem _ (List.mem_append_right _ h)) (by decide +kernel))
set_option maxRecDepth 20000 in
theorem gX1_mixTravellers_X1_hiddenOf : GoodIn wsX1_mixTravellers (wsV RX1 178 RX1 yX1_hiddenOf wsX1_hiddenOf) := goodIn_app (goodIn_of _ (by decide +kernel)) ggX1_mixTravellers_X1_hiddenOf
set_option maxRecDepth 20000 in
theorem ggX1_mixTravellers_X1_lullabyOf : GoodIn wsX1_mixTravellers wsX1_lullabyOf := goodIn_ca (goodIn_r _ [108, 2, 109, 89, 90, 91, 86, 92, 93, 94, 95, 45, 46, 7, 47, 12, 129, 130, 131, 132, 133, 134, 135, 136, 137, 138, 139, 140, 141, 142, 143, 144, 145] (by decide +kernel) (by decide +kernel)) (goodIn_sub (fun _ h => List.mem_cons_of_mem _ (List.mem_append_right _ h)) (by decide +kernel))
set_option maxRecDepth 20000 in
theorem gX1_mixTravellers_X1_lullabyOf : GoodIn wsX1_mixTravellers (wsV RX1 181 RX1 yX1_lullabyOf wsX1_lullabyOf) := goodIn_app (goodIn_of _ (by decide +kernel)) ggX1_mixTravellers_X1_lullabyOf
set_option maxRecDepth 20000 in
theorem ggX1_mixTravellers_X1_placeInLine : GoodIn wsX1_mixTravellers wsX1_placeInLine := goodIn_ca (goodIn_r _ [113, 2, 88, 89, 90, 91, 86, 92, 93, 94, 95, 45, 46, 7, 47, 12, 114, 115, 116, 117, 17, 129, 130, 131, 132, 133, 134, 135, 136, 137, 138, 139, 140, 141, 142, 143, 144, 145] (by decide +kernel) (by decide +kernel)) (goodIn_sub (fun _ h => List.mem_cons_of_mem _ (List.mem_append_right _ h)) (by decide +kernel))
set_option maxRecDepth 20000 in
theorem gX1_mixTravellers_X1_placeInLine : GoodIn wsX1_mixTravellers (wsV RX1 184 RX1 yX1_placeInLine wsX1_placeInLine) := goodIn_app (goodIn_of _ (by decide +kernel)) ggX1_mixTravellers_X1_placeInLine
set_option maxRecDepth 20000 in
theorem ggX1_mixTravellers_X1_searchTime : GoodIn wsX1_mixTravellers wsX1_searchTime := goodIn_ca (goodIn_r _ [121, 2, 89, 90, 91, 86, 92, 93, 94, 95, 45, 46, 7, 47, 12, 122, 76, 77, 78, 14, 79, 80, 81, 82, 17, 15, 129, 130, 131, 132, 133, 134, 135, 136, 137, 138, 139, 140, 141, 142, 143, 144, 145] (by decide +kernel) (by decide +kernel)) (goodIn_sub (fun _ h => List.mem_cons_of_mem _ (List.mem_append_right _ h)) (by decide +kernel))
set_option maxRecDepth 20000 in
theorem gX1_mixTravellers_X1_searchTime : GoodIn wsX1_mixTravellers (wsV RX1 187 RX1 yX1_searchTime wsX1_searchTime) := goodIn_app (goodIn_of _ (by decide +kernel)) ggX1_mixTravellers_X1_searchTime
set_option maxRecDepth 20000 in
theorem ggX1_mixTravellers_X1_foreseenSleep : GoodIn wsX1_mixTravellers wsX1_foreseenSleep := goodIn_r _ [126, 2, 88, 1, 127, 128, 129, 130, 131, 132, 133, 134, 135, 136, 137, 138, 139, 140, 141, 142, 143, 144, 145] (by decide +kernel) (by decide +kernel)
set_option maxRecDepth 20000 in
theorem gX1_mixTravellers_X1_foreseenSleep : GoodIn wsX1_mixTravellers (wsV RX1 120 RX1 yX1_foreseenSleep wsX1_foreseenSleep) := goodIn_app (goodIn_of _ (by decide +kernel)) ggX1_mixTravellers_X1_foreseenSleep
theorem dX1_mixTravellers_0 : decode cX1_mixTravellers 0 = .ok (.aload_n 0, 1) := by decide +kernel
theorem dX1_mixTravellers_1 : decode cX1_mixTravellers 1 = .ok (.getfield 16, 3) := by decide +kernel
theorem dX1_mixTravellers_4 : decode cX1_mixTravellers 4 = .ok (.aload_n 0, 1) := by decide +kernel
theorem dX1_mixTravellers_5 : decode cX1_mixTravellers 5 = .ok (.getfield 10, 3) := by decide +kernel
theorem dX1_mixTravellers_8 : decode cX1_mixTravellers 8 = .ok (.invokevirtual 113, 3) := by decide +kernel
theorem dX1_mixTravellers_11 : decode cX1_mixTravellers 11 = .ok (.aload_n 0, 1) := by decide +kernel
theorem dX1_mixTravellers_12 : decode cX1_mixTravellers 12 = .ok (.getfield 16, 3) := by decide +kernel
theorem dX1_mixTravellers_15 : decode cX1_mixTravellers 15 = .ok (.bipush 100, 2) := by decide +kernel
theorem dX1_mixTravellers_17 : decode cX1_mixTravellers 17 = .ok (.invokevirtual 117, 3) := by decide +kernel
theorem dX1_mixTravellers_20 : decode cX1_mixTravellers 20 = .ok (.lload_n 1, 1) := by decide +kernel
theorem dX1_mixTravellers_21 : decode cX1_mixTravellers 21 = .ok (.lstore_n 3, 1) := by decide +kernel
theorem dX1_mixTravellers_22 : decode cX1_mixTravellers 22 = .ok (.iconst 0, 1) := by decide +kernel
theorem dX1_mixTravellers_23 : decode cX1_mixTravellers 23 = .ok (.istore 5, 2) := by decide +kernel
theorem dX1_mixTravellers_25 : decode cX1_mixTravellers 25 = .ok (.iload 5, 2) := by decide +kernel
theorem dX1_mixTravellers_27 : decode cX1_mixTravellers 27 = .ok (.aload_n 0, 1) := by decide +kernel
theorem dX1_mixTravellers_28 : decode cX1_mixTravellers 28 = .ok (.getfield 10, 3) := by decide +kernel
theorem dX1_mixTravellers_31 : decode cX1_mixTravellers 31 = .ok (.getfield 40, 3) := by decide +kernel
theorem dX1_mixTravellers_34 : decode cX1_mixTravellers 34 = .ok (.if_icmp .ge 75, 3) := by decide +kernel
theorem dX1_mixTravellers_37 : decode cX1_mixTravellers 37 = .ok (.lload_n 3, 1) := by decide +kernel
theorem dX1_mixTravellers_38 : decode cX1_mixTravellers 38 = .ok (.aload_n 0, 1) := by decide +kernel
theorem dX1_mixTravellers_39 : decode cX1_mixTravellers 39 = .ok (.iload 5, 2) := by decide +kernel
theorem dX1_mixTravellers_41 : decode cX1_mixTravellers 41 = .ok (.invokevirtual 175, 3) := by decide +kernel
theorem dX1_mixTravellers_44 : decode cX1_mixTravellers 44 = .ok (.invokestatic 128, 3) := by decide +kernel
theorem dX1_mixTravellers_47 : decode cX1_mixTravellers 47 = .ok (.lstore_n 3, 1) := by decide +kernel
theorem dX1_mixTravellers_48 : decode cX1_mixTravellers 48 = .ok (.lload_n 3, 1) := by decide +kernel
theorem dX1_mixTravellers_49 : decode cX1_mixTravellers 49 = .ok (.aload_n 0, 1) := by decide +kernel
theorem dX1_mixTravellers_50 : decode cX1_mixTravellers 50 = .ok (.iload 5, 2) := by decide +kernel
theorem dX1_mixTravellers_52 : decode cX1_mixTravellers 52 = .ok (.invokevirtual 178, 3) := by decide +kernel
theorem dX1_mixTravellers_55 : decode cX1_mixTravellers 55 = .ok (.invokestatic 128, 3) := by decide +kernel
theorem dX1_mixTravellers_58 : decode cX1_mixTravellers 58 = .ok (.lstore_n 3, 1) := by decide +kernel
theorem dX1_mixTravellers_59 : decode cX1_mixTravellers 59 = .ok (.lload_n 3, 1) := by decide +kernel
theorem dX1_mixTravellers_60 : decode cX1_mixTravellers 60 = .ok (.aload_n 0, 1) := by decide +kernel
theorem dX1_mixTravellers_61 : decode cX1_mixTravellers 61 = .ok (.iload 5, 2) := by decide +kernel
theorem dX1_mixTravellers_63 : decode cX1_mixTravellers 63 = .ok (.invokevirtual 181, 3) := by decide +kernel
theorem dX1_mixTravellers_66 : decode cX1_mixTravellers 66 = .ok (.invokestatic 128, 3) := by decide +kernel
theorem dX1_mixTravellers_69 : decode cX1_mixTravellers 69 = .ok (.lstore_n 3, 1) := by decide +kernel
theorem dX1_mixTravellers_70 : decode cX1_mixTravellers 70 = .ok (.lload_n 3, 1) := by decide +kernel
theorem dX1_mixTravellers_71 : decode cX1_mixTravellers 71 = .ok (.aload_n 0, 1) := by decide +kernel
theorem dX1_mixTravellers_72 : decode cX1_mixTravellers 72 = .ok (.iload 5, 2) := by decide +kernel
theorem dX1_mixTravellers_74 : decode cX1_mixTravellers 74 = .ok (.invokevirtual 184, 3) := by decide +kernel
theorem dX1_mixTravellers_77 : decode cX1_mixTravellers 77 = .ok (.invokestatic 128, 3) := by decide +kernel
theorem dX1_mixTravellers_80 : decode cX1_mixTravellers 80 = .ok (.lstore_n 3, 1) := by decide +kernel
theorem dX1_mixTravellers_81 : decode cX1_mixTravellers 81 = .ok (.lload_n 3, 1) := by decide +kernel
theorem dX1_mixTravellers_82 : decode cX1_mixTravellers 82 = .ok (.aload_n 0, 1) := by decide +kernel
theorem dX1_mixTravellers_83 : decode cX1_mixTravellers 83 = .ok (.iload 5, 2) := by decide +kernel
theorem dX1_mixTravellers_85 : decode cX1_mixTravellers 85 = .ok (.invokevirtual 187, 3) := by decide +kernel
theorem dX1_mixTravellers_88 : decode cX1_mixTravellers 88 = .ok (.invokestatic 128, 3) := by decide +kernel
theorem dX1_mixTravellers_91 : decode cX1_mixTravellers 91 = .ok (.lstore_n 3, 1) := by decide +kernel
theorem dX1_mixTravellers_92 : decode cX1_mixTravellers 92 = .ok (.lload_n 3, 1) := by decide +kernel
theorem dX1_mixTravellers_93 : decode cX1_mixTravellers 93 = .ok (.aload_n 0, 1) := by decide +kernel
theorem dX1_mixTravellers_94 : decode cX1_mixTravellers 94 = .ok (.iload 5, 2) := by decide +kernel
theorem dX1_mixTravellers_96 : decode cX1_mixTravellers 96 = .ok (.invokevirtual 120, 3) := by decide +kernel
theorem dX1_mixTravellers_99 : decode cX1_mixTravellers 99 = .ok (.invokestatic 128, 3) := by decide +kernel
theorem dX1_mixTravellers_102 : decode cX1_mixTravellers 102 = .ok (.lstore_n 3, 1) := by decide +kernel
theorem dX1_mixTravellers_103 : decode cX1_mixTravellers 103 = .ok (.iinc 5 1, 3) := by decide +kernel
theorem dX1_mixTravellers_106 : decode cX1_mixTravellers 106 = .ok (.goto (-81), 3) := by decide +kernel
theorem dX1_mixTravellers_109 : decode cX1_mixTravellers 109 = .ok (.lload_n 3, 1) := by decide +kernel
theorem dX1_mixTravellers_110 : decode cX1_mixTravellers 110 = .ok (.lreturn, 1) := by decide +kernel
set_option maxRecDepth 20000 in
theorem ggX1_mixGuards_X1_alertnessOf : GoodIn wsX1_mixGuards wsX1_alertnessOf := goodIn_ca (goodIn_r _ [7, 1, 8, 9, 10, 11, 6, 12, 13, 14, 15, 16, 17, 18, 19, 20, 35, 36, 37, 38, 39, 40, 41, 42, 43, 44, 45, 46, 47, 48, 49, 50, 51] (by decide +kernel) (by decide +kernel)) (goodIn_sub (fun _ h => List.mem_cons_of_mem _ (List.mem_append_right _ h)) (by decide +kernel))
set_option maxRecDepth 20000 in
theorem gX1_mixGuards_X1_alertnessOf : GoodIn wsX1_mixGuards (wsV RX1 190 RX1 yX1_alertnessOf wsX1_alertnessOf) := goodIn_app (goodIn_of _ (by decide +kernel)) ggX1_mixGuards_X1_alertnessOf
set_option maxRecDepth 20000 in
theorem ggX1_mixGuards_X1_mix : GoodIn wsX1_mixGuards wsX1_mix := goodIn_r _ [23, 24] (by decide +kernel) (by decide +kernel)
set_option maxRecDepth 20000 in
theorem gX1_mixGuards_X1_mix : GoodIn wsX1_mixGuards (va_wsS RX1 128 yX1_mix wsX1_mix) := goodIn_app (goodIn_of _ (by decide +kernel)) ggX1_mixGuards_X1_mix
set_option maxRecDepth 20000 in
theorem ggX1_mixGuards_X1_searches : GoodIn wsX1_mixGuards wsX1_searches := goodIn_ca (goodIn_r _ [28, 1, 29, 9, 10, 11, 6, 12, 13, 14, 15, 16, 17, 18, 19, 20, 35, 36, 37, 38, 39, 40, 41, 42, 43, 44, 45, 46, 47, 48, 49, 50, 51] (by decide +kernel) (by decide +kernel)) (goodIn_sub (fun _ h => List.mem_cons_of_mem _ (List.mem_append_right _ h)) (by decide +kernel))
set_option maxRecDepth 20000 in
theorem gX1_mixGuards_X1_searches : GoodIn wsX1_mixGuards (wsV RX1 193 RX1 yX1_searches wsX1_searches) := goodIn_app (goodIn_of _ (by decide +kernel)) ggX1_mixGuards_X1_searches
set_option maxRecDepth 20000 in
theorem ggX1_mixGuards_X1_minutesToGo : GoodIn wsX1_mixGuards wsX1_minutesToGo := goodIn_ca (goodIn_r _ [33, 1, 34, 9, 10, 11, 6, 12, 13, 14, 15, 16, 17, 18, 19, 20, 35, 36, 37, 38, 39, 40, 41, 42, 43, 44, 45, 46, 47, 48, 49, 50, 51] (by decide +kernel) (by decide +kernel)) (goodIn_sub (fun _ h => List.mem_cons_of_mem _ (List.mem_append_right _ h)) (by decide +kernel))
set_option maxRecDepth 20000 in
theorem gX1_mixGuards_X1_minutesToGo : GoodIn wsX1_mixGuards (wsV RX1 196 RX1 yX1_minutesToGo wsX1_minutesToGo) := goodIn_app (goodIn_of _ (by decide +kernel)) ggX1_mixGuards_X1_minutesToGo
theorem dX1_mixGuards_0 : decode cX1_mixGuards 0 = .ok (.lload_n 1, 1) := by decide +kernel
theorem dX1_mixGuards_1 : decode cX1_mixGuards 1 = .ok (.lstore_n 3, 1) := by decide +kernel
theorem dX1_mixGuards_2 : decode cX1_mixGuards 2 = .ok (.iconst 0, 1) := by decide +kernel
theorem dX1_mixGuards_3 : decode cX1_mixGuards 3 = .ok (.istore 5, 2) := by decide +kernel
theorem dX1_mixGuards_5 : decode cX1_mixGuards 5 = .ok (.iload 5, 2) := by decide +kernel
theorem dX1_mixGuards_7 : decode cX1_mixGuards 7 = .ok (.aload_n 0, 1) := by decide +kernel
theorem dX1_mixGuards_8 : decode cX1_mixGuards 8 = .ok (.getfield 10, 3) := by decide +kernel
theorem dX1_mixGuards_11 : decode cX1_mixGuards 11 = .ok (.getfield 19, 3) := by decide +kernel
theorem dX1_mixGuards_14 : decode cX1_mixGuards 14 = .ok (.if_icmp .ge 42, 3) := by decide +kernel
theorem dX1_mixGuards_17 : decode cX1_mixGuards 17 = .ok (.lload_n 3, 1) := by decide +kernel
theorem dX1_mixGuards_18 : decode cX1_mixGuards 18 = .ok (.aload_n 0, 1) := by decide +kernel
theorem dX1_mixGuards_19 : decode cX1_mixGuards 19 = .ok (.iload 5, 2) := by decide +kernel
theorem dX1_mixGuards_21 : decode cX1_mixGuards 21 = .ok (.invokevirtual 190, 3) := by decide +kernel
theorem dX1_mixGuards_24 : decode cX1_mixGuards 24 = .ok (.invokestatic 128, 3) := by decide +kernel
theorem dX1_mixGuards_27 : decode cX1_mixGuards 27 = .ok (.lstore_n 3, 1) := by decide +kernel
theorem dX1_mixGuards_28 : decode cX1_mixGuards 28 = .ok (.lload_n 3, 1) := by decide +kernel
theorem dX1_mixGuards_29 : decode cX1_mixGuards 29 = .ok (.aload_n 0, 1) := by decide +kernel
theorem dX1_mixGuards_30 : decode cX1_mixGuards 30 = .ok (.iload 5, 2) := by decide +kernel
theorem dX1_mixGuards_32 : decode cX1_mixGuards 32 = .ok (.invokevirtual 193, 3) := by decide +kernel
theorem dX1_mixGuards_35 : decode cX1_mixGuards 35 = .ok (.invokestatic 128, 3) := by decide +kernel
theorem dX1_mixGuards_38 : decode cX1_mixGuards 38 = .ok (.lstore_n 3, 1) := by decide +kernel
theorem dX1_mixGuards_39 : decode cX1_mixGuards 39 = .ok (.lload_n 3, 1) := by decide +kernel
theorem dX1_mixGuards_40 : decode cX1_mixGuards 40 = .ok (.aload_n 0, 1) := by decide +kernel
theorem dX1_mixGuards_41 : decode cX1_mixGuards 41 = .ok (.iload 5, 2) := by decide +kernel
theorem dX1_mixGuards_43 : decode cX1_mixGuards 43 = .ok (.invokevirtual 196, 3) := by decide +kernel
theorem dX1_mixGuards_46 : decode cX1_mixGuards 46 = .ok (.invokestatic 128, 3) := by decide +kernel
theorem dX1_mixGuards_49 : decode cX1_mixGuards 49 = .ok (.lstore_n 3, 1) := by decide +kernel
theorem dX1_mixGuards_50 : decode cX1_mixGuards 50 = .ok (.iinc 5 1, 3) := by decide +kernel
theorem dX1_mixGuards_53 : decode cX1_mixGuards 53 = .ok (.goto (-48), 3) := by decide +kernel
theorem dX1_mixGuards_56 : decode cX1_mixGuards 56 = .ok (.lload_n 3, 1) := by decide +kernel
theorem dX1_mixGuards_57 : decode cX1_mixGuards 57 = .ok (.lreturn, 1) := by decide +kernel
theorem dX1_mix_0 : decode cX1_mix 0 = .ok (.lload_n 0, 1) := by decide +kernel
theorem dX1_mix_1 : decode cX1_mix 1 = .ok (.ldc2_w 199, 3) := by decide +kernel
theorem dX1_mix_4 : decode cX1_mix 4 = .ok (.lmul, 1) := by decide +kernel
theorem dX1_mix_5 : decode cX1_mix 5 = .ok (.iload_n 2, 1) := by decide +kernel
theorem dX1_mix_6 : decode cX1_mix 6 = .ok (.i2l, 1) := by decide +kernel
theorem dX1_mix_7 : decode cX1_mix 7 = .ok (.ladd, 1) := by decide +kernel
theorem dX1_mix_8 : decode cX1_mix 8 = .ok (.lreturn, 1) := by decide +kernel
theorem dX1_foreseenSleep_0 : decode cX1_foreseenSleep 0 = .ok (.aload_n 0, 1) := by decide +kernel
theorem dX1_foreseenSleep_1 : decode cX1_foreseenSleep 1 = .ok (.getfield 10, 3) := by decide +kernel
theorem dX1_foreseenSleep_4 : decode cX1_foreseenSleep 4 = .ok (.getfield 91, 3) := by decide +kernel
theorem dX1_foreseenSleep_7 : decode cX1_foreseenSleep 7 = .ok (.iload_n 1, 1) := by decide +kernel
theorem dX1_foreseenSleep_8 : decode cX1_foreseenSleep 8 = .ok (.iaload, 1) := by decide +kernel
theorem dX1_foreseenSleep_9 : decode cX1_foreseenSleep 9 = .ok (.iconst 3, 1) := by decide +kernel
theorem dX1_foreseenSleep_10 : decode cX1_foreseenSleep 10 = .ok (.if_icmp .ne 5, 3) := by decide +kernel
theorem dX1_foreseenSleep_13 : decode cX1_foreseenSleep 13 = .ok (.iconst 0, 1) := by decide +kernel
theorem dX1_foreseenSleep_14 : decode cX1_foreseenSleep 14 = .ok (.ireturn, 1) := by decide +kernel
theorem dX1_foreseenSleep_15 : decode cX1_foreseenSleep 15 = .ok (.aload_n 0, 1) := by decide +kernel
theorem dX1_foreseenSleep_16 : decode cX1_foreseenSleep 16 = .ok (.getfield 16, 3) := by decide +kernel
theorem dX1_foreseenSleep_19 : decode cX1_foreseenSleep 19 = .ok (.getfield 91, 3) := by decide +kernel
theorem dX1_foreseenSleep_22 : decode cX1_foreseenSleep 22 = .ok (.iload_n 1, 1) := by decide +kernel
theorem dX1_foreseenSleep_23 : decode cX1_foreseenSleep 23 = .ok (.iaload, 1) := by decide +kernel
theorem dX1_foreseenSleep_24 : decode cX1_foreseenSleep 24 = .ok (.iconst 3, 1) := by decide +kernel
theorem dX1_foreseenSleep_25 : decode cX1_foreseenSleep 25 = .ok (.if_icmp .eq 5, 3) := by decide +kernel
theorem dX1_foreseenSleep_28 : decode cX1_foreseenSleep 28 = .ok (.iconst (-1), 1) := by decide +kernel
theorem dX1_foreseenSleep_29 : decode cX1_foreseenSleep 29 = .ok (.ireturn, 1) := by decide +kernel
theorem dX1_foreseenSleep_30 : decode cX1_foreseenSleep 30 = .ok (.aload_n 0, 1) := by decide +kernel
theorem dX1_foreseenSleep_31 : decode cX1_foreseenSleep 31 = .ok (.getfield 16, 3) := by decide +kernel
theorem dX1_foreseenSleep_34 : decode cX1_foreseenSleep 34 = .ok (.getfield 201, 3) := by decide +kernel
theorem dX1_foreseenSleep_37 : decode cX1_foreseenSleep 37 = .ok (.iload_n 1, 1) := by decide +kernel
theorem dX1_foreseenSleep_38 : decode cX1_foreseenSleep 38 = .ok (.iaload, 1) := by decide +kernel
theorem dX1_foreseenSleep_39 : decode cX1_foreseenSleep 39 = .ok (.aload_n 0, 1) := by decide +kernel
theorem dX1_foreseenSleep_40 : decode cX1_foreseenSleep 40 = .ok (.getfield 10, 3) := by decide +kernel
theorem dX1_foreseenSleep_43 : decode cX1_foreseenSleep 43 = .ok (.getfield 75, 3) := by decide +kernel
theorem dX1_foreseenSleep_46 : decode cX1_foreseenSleep 46 = .ok (.isub, 1) := by decide +kernel
theorem dX1_foreseenSleep_47 : decode cX1_foreseenSleep 47 = .ok (.ireturn, 1) := by decide +kernel
set_option maxRecDepth 20000 in
theorem ggX1_requireTraveller_X0_isTraveller : GoodIn wsX1_requireTraveller wsX0_isTraveller := goodIn_r _ [8, 9, 12, 13, 14, 15, 16, 17, 18, 19, 20, 21, 22, 23, 24, 25, 26] (by decide +kernel) (by decide +kernel)
set_option maxRecDepth 20000 in
theorem gX1_requireTraveller_X0_isTraveller : GoodIn wsX1_requireTraveller (wsV RX1 204 RX0 yX0_isTraveller wsX0_isTraveller) := goodIn_app (goodIn_of _ (by decide +kernel)) ggX1_requireTraveller_X0_isTraveller
theorem dX1_requireTraveller_0 : decode cX1_requireTraveller 0 = .ok (.aload_n 0, 1) := by decide +kernel
theorem dX1_requireTraveller_1 : decode cX1_requireTraveller 1 = .ok (.getfield 10, 3) := by decide +kernel
theorem dX1_requireTraveller_4 : decode cX1_requireTraveller 4 = .ok (.iload_n 1, 1) := by decide +kernel
theorem dX1_requireTraveller_5 : decode cX1_requireTraveller 5 = .ok (.invokevirtual 204, 3) := by decide +kernel
theorem dX1_requireTraveller_8 : decode cX1_requireTraveller 8 = .ok (.ifCond .ne 13, 3) := by decide +kernel
theorem dX1_requireTraveller_11 : decode cX1_requireTraveller 11 = .ok (.new 208, 3) := by decide +kernel
theorem dX1_requireTraveller_14 : decode cX1_requireTraveller 14 = .ok (.dup, 1) := by decide +kernel
theorem dX1_requireTraveller_15 : decode cX1_requireTraveller 15 = .ok (.ldc 210, 2) := by decide +kernel
theorem dX1_requireTraveller_17 : decode cX1_requireTraveller 17 = .ok (.invokespecial 212, 3) := by decide +kernel
theorem dX1_requireTraveller_20 : decode cX1_requireTraveller 20 = .ok (.athrow, 1) := by decide +kernel
theorem dX1_requireTraveller_21 : decode cX1_requireTraveller 21 = .ok (.return_, 1) := by decide +kernel
set_option maxRecDepth 20000 in
theorem ggX1_requireGuard_X0_isGuard : GoodIn wsX1_requireGuard wsX0_isGuard := goodIn_r _ [8, 9, 12, 13, 14, 15, 16, 17, 18, 19, 20, 21, 22, 23, 24, 25, 26] (by decide +kernel) (by decide +kernel)
set_option maxRecDepth 20000 in
theorem gX1_requireGuard_X0_isGuard : GoodIn wsX1_requireGuard (wsV RX1 213 RX0 yX0_isGuard wsX0_isGuard) := goodIn_app (goodIn_of _ (by decide +kernel)) ggX1_requireGuard_X0_isGuard
theorem dX1_requireGuard_0 : decode cX1_requireGuard 0 = .ok (.aload_n 0, 1) := by decide +kernel
theorem dX1_requireGuard_1 : decode cX1_requireGuard 1 = .ok (.getfield 10, 3) := by decide +kernel
theorem dX1_requireGuard_4 : decode cX1_requireGuard 4 = .ok (.iload_n 1, 1) := by decide +kernel
theorem dX1_requireGuard_5 : decode cX1_requireGuard 5 = .ok (.invokevirtual 213, 3) := by decide +kernel
theorem dX1_requireGuard_8 : decode cX1_requireGuard 8 = .ok (.ifCond .ne 13, 3) := by decide +kernel
theorem dX1_requireGuard_11 : decode cX1_requireGuard 11 = .ok (.new 208, 3) := by decide +kernel
theorem dX1_requireGuard_14 : decode cX1_requireGuard 14 = .ok (.dup, 1) := by decide +kernel
theorem dX1_requireGuard_15 : decode cX1_requireGuard 15 = .ok (.ldc 216, 2) := by decide +kernel
theorem dX1_requireGuard_17 : decode cX1_requireGuard 17 = .ok (.invokespecial 212, 3) := by decide +kernel
theorem dX1_requireGuard_20 : decode cX1_requireGuard 20 = .ok (.athrow, 1) := by decide +kernel
theorem dX1_requireGuard_21 : decode cX1_requireGuard 21 = .ok (.return_, 1) := by decide +kernel
theorem dX1_requireDigit_0 : decode cX1_requireDigit 0 = .ok (.iload_n 0, 1) := by decide +kernel
theorem dX1_requireDigit_1 : decode cX1_requireDigit 1 = .ok (.ifCond .lt 9, 3) := by decide +kernel
theorem dX1_requireDigit_4 : decode cX1_requireDigit 4 = .ok (.iload_n 0, 1) := by decide +kernel
theorem dX1_requireDigit_5 : decode cX1_requireDigit 5 = .ok (.bipush 9, 2) := by decide +kernel
theorem dX1_requireDigit_7 : decode cX1_requireDigit 7 = .ok (.if_icmp .le 13, 3) := by decide +kernel
theorem dX1_requireDigit_10 : decode cX1_requireDigit 10 = .ok (.new 218, 3) := by decide +kernel
theorem dX1_requireDigit_13 : decode cX1_requireDigit 13 = .ok (.dup, 1) := by decide +kernel
theorem dX1_requireDigit_14 : decode cX1_requireDigit 14 = .ok (.ldc 220, 2) := by decide +kernel
theorem dX1_requireDigit_16 : decode cX1_requireDigit 16 = .ok (.invokespecial 222, 3) := by decide +kernel
theorem dX1_requireDigit_19 : decode cX1_requireDigit 19 = .ok (.athrow, 1) := by decide +kernel
theorem dX1_requireDigit_20 : decode cX1_requireDigit 20 = .ok (.return_, 1) := by decide +kernel
theorem dX1_requireMinutes_0 : decode cX1_requireMinutes 0 = .ok (.iload_n 0, 1) := by decide +kernel
theorem dX1_requireMinutes_1 : decode cX1_requireMinutes 1 = .ok (.iconst 1, 1) := by decide +kernel
theorem dX1_requireMinutes_2 : decode cX1_requireMinutes 2 = .ok (.if_icmp .lt 9, 3) := by decide +kernel
theorem dX1_requireMinutes_5 : decode cX1_requireMinutes 5 = .ok (.iload_n 0, 1) := by decide +kernel
theorem dX1_requireMinutes_6 : decode cX1_requireMinutes 6 = .ok (.bipush 60, 2) := by decide +kernel
theorem dX1_requireMinutes_8 : decode cX1_requireMinutes 8 = .ok (.if_icmp .le 13, 3) := by decide +kernel
theorem dX1_requireMinutes_11 : decode cX1_requireMinutes 11 = .ok (.new 218, 3) := by decide +kernel
theorem dX1_requireMinutes_14 : decode cX1_requireMinutes 14 = .ok (.dup, 1) := by decide +kernel
theorem dX1_requireMinutes_15 : decode cX1_requireMinutes 15 = .ok (.ldc 223, 2) := by decide +kernel
theorem dX1_requireMinutes_17 : decode cX1_requireMinutes 17 = .ok (.invokespecial 222, 3) := by decide +kernel
theorem dX1_requireMinutes_20 : decode cX1_requireMinutes 20 = .ok (.athrow, 1) := by decide +kernel
theorem dX1_requireMinutes_21 : decode cX1_requireMinutes 21 = .ok (.return_, 1) := by decide +kernel
theorem dX1_requireWaiting_0 : decode cX1_requireWaiting 0 = .ok (.aload_n 0, 1) := by decide +kernel
theorem dX1_requireWaiting_1 : decode cX1_requireWaiting 1 = .ok (.getfield 10, 3) := by decide +kernel
theorem dX1_requireWaiting_4 : decode cX1_requireWaiting 4 = .ok (.getfield 91, 3) := by decide +kernel
theorem dX1_requireWaiting_7 : decode cX1_requireWaiting 7 = .ok (.iload_n 1, 1) := by decide +kernel
theorem dX1_requireWaiting_8 : decode cX1_requireWaiting 8 = .ok (.iaload, 1) := by decide +kernel
theorem dX1_requireWaiting_9 : decode cX1_requireWaiting 9 = .ok (.ifCond .eq 13, 3) := by decide +kernel
theorem dX1_requireWaiting_12 : decode cX1_requireWaiting 12 = .ok (.new 23, 3) := by decide +kernel
theorem dX1_requireWaiting_15 : decode cX1_requireWaiting 15 = .ok (.dup, 1) := by decide +kernel
theorem dX1_requireWaiting_16 : decode cX1_requireWaiting 16 = .ok (.ldc 225, 2) := by decide +kernel
theorem dX1_requireWaiting_18 : decode cX1_requireWaiting 18 = .ok (.invokespecial 27, 3) := by decide +kernel
theorem dX1_requireWaiting_21 : decode cX1_requireWaiting 21 = .ok (.athrow, 1) := by decide +kernel
theorem dX1_requireWaiting_22 : decode cX1_requireWaiting 22 = .ok (.return_, 1) := by decide +kernel
