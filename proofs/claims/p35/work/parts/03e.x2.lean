theorem dX2_init_0 : decode cX2_init 0 = .ok (.aload_n 0, 1) := by decide +kernel
theorem dX2_init_1 : decode cX2_init 1 = .ok (.invokespecial 1, 3) := by decide +kernel
theorem dX2_init_4 : decode cX2_init 4 = .ok (.aload_n 0, 1) := by decide +kernel
theorem dX2_init_5 : decode cX2_init 5 = .ok (.iconst 0, 1) := by decide +kernel
theorem dX2_init_6 : decode cX2_init 6 = .ok (.anewarray 7, 3) := by decide +kernel
theorem dX2_init_9 : decode cX2_init 9 = .ok (.putfield 9, 3) := by decide +kernel
theorem dX2_init_12 : decode cX2_init 12 = .ok (.aload_n 0, 1) := by decide +kernel
theorem dX2_init_13 : decode cX2_init 13 = .ok (.iconst 0, 1) := by decide +kernel
theorem dX2_init_14 : decode cX2_init 14 = .ok (.anewarray 7, 3) := by decide +kernel
theorem dX2_init_17 : decode cX2_init 17 = .ok (.putfield 15, 3) := by decide +kernel
theorem dX2_init_20 : decode cX2_init 20 = .ok (.return_, 1) := by decide +kernel
theorem dX2_with_0 : decode cX2_with 0 = .ok (.aload_n 0, 1) := by decide +kernel
theorem dX2_with_1 : decode cX2_with 1 = .ok (.arraylength, 1) := by decide +kernel
theorem dX2_with_2 : decode cX2_with 2 = .ok (.iconst 1, 1) := by decide +kernel
theorem dX2_with_3 : decode cX2_with 3 = .ok (.iadd, 1) := by decide +kernel
theorem dX2_with_4 : decode cX2_with 4 = .ok (.anewarray 7, 3) := by decide +kernel
theorem dX2_with_7 : decode cX2_with 7 = .ok (.astore_n 2, 1) := by decide +kernel
theorem dX2_with_8 : decode cX2_with 8 = .ok (.iconst 0, 1) := by decide +kernel
theorem dX2_with_9 : decode cX2_with 9 = .ok (.istore_n 3, 1) := by decide +kernel
theorem dX2_with_10 : decode cX2_with 10 = .ok (.iload_n 3, 1) := by decide +kernel
theorem dX2_with_11 : decode cX2_with 11 = .ok (.aload_n 0, 1) := by decide +kernel
theorem dX2_with_12 : decode cX2_with 12 = .ok (.arraylength, 1) := by decide +kernel
theorem dX2_with_13 : decode cX2_with 13 = .ok (.if_icmp .ge 15, 3) := by decide +kernel
theorem dX2_with_16 : decode cX2_with 16 = .ok (.aload_n 2, 1) := by decide +kernel
theorem dX2_with_17 : decode cX2_with 17 = .ok (.iload_n 3, 1) := by decide +kernel
theorem dX2_with_18 : decode cX2_with 18 = .ok (.aload_n 0, 1) := by decide +kernel
theorem dX2_with_19 : decode cX2_with 19 = .ok (.iload_n 3, 1) := by decide +kernel
theorem dX2_with_20 : decode cX2_with 20 = .ok (.aaload, 1) := by decide +kernel
theorem dX2_with_21 : decode cX2_with 21 = .ok (.aastore, 1) := by decide +kernel
theorem dX2_with_22 : decode cX2_with 22 = .ok (.iinc 3 1, 3) := by decide +kernel
theorem dX2_with_25 : decode cX2_with 25 = .ok (.goto (-15), 3) := by decide +kernel
theorem dX2_with_28 : decode cX2_with 28 = .ok (.aload_n 2, 1) := by decide +kernel
theorem dX2_with_29 : decode cX2_with 29 = .ok (.aload_n 0, 1) := by decide +kernel
theorem dX2_with_30 : decode cX2_with 30 = .ok (.arraylength, 1) := by decide +kernel
theorem dX2_with_31 : decode cX2_with 31 = .ok (.aload_n 1, 1) := by decide +kernel
theorem dX2_with_32 : decode cX2_with 32 = .ok (.aastore, 1) := by decide +kernel
theorem dX2_with_33 : decode cX2_with 33 = .ok (.aload_n 2, 1) := by decide +kernel
theorem dX2_with_34 : decode cX2_with 34 = .ok (.areturn, 1) := by decide +kernel
theorem dX2_noise_0 : decode cX2_noise 0 = .ok (.iconst 0, 1) := by decide +kernel
theorem dX2_noise_1 : decode cX2_noise 1 = .ok (.istore_n 1, 1) := by decide +kernel
theorem dX2_noise_2 : decode cX2_noise 2 = .ok (.aload_n 0, 1) := by decide +kernel
theorem dX2_noise_3 : decode cX2_noise 3 = .ok (.getfield 15, 3) := by decide +kernel
theorem dX2_noise_6 : decode cX2_noise 6 = .ok (.astore_n 2, 1) := by decide +kernel
theorem dX2_noise_7 : decode cX2_noise 7 = .ok (.aload_n 2, 1) := by decide +kernel
theorem dX2_noise_8 : decode cX2_noise 8 = .ok (.arraylength, 1) := by decide +kernel
theorem dX2_noise_9 : decode cX2_noise 9 = .ok (.istore_n 3, 1) := by decide +kernel
theorem dX2_noise_10 : decode cX2_noise 10 = .ok (.iconst 0, 1) := by decide +kernel
theorem dX2_noise_11 : decode cX2_noise 11 = .ok (.istore 4, 2) := by decide +kernel
theorem dX2_noise_13 : decode cX2_noise 13 = .ok (.iload 4, 2) := by decide +kernel
theorem dX2_noise_15 : decode cX2_noise 15 = .ok (.iload_n 3, 1) := by decide +kernel
theorem dX2_noise_16 : decode cX2_noise 16 = .ok (.if_icmp .ge 30, 3) := by decide +kernel
theorem dX2_noise_19 : decode cX2_noise 19 = .ok (.aload_n 2, 1) := by decide +kernel
theorem dX2_noise_20 : decode cX2_noise 20 = .ok (.iload 4, 2) := by decide +kernel
theorem dX2_noise_22 : decode cX2_noise 22 = .ok (.aaload, 1) := by decide +kernel
theorem dX2_noise_23 : decode cX2_noise 23 = .ok (.astore 5, 2) := by decide +kernel
theorem dX2_noise_25 : decode cX2_noise 25 = .ok (.aload 5, 2) := by decide +kernel
theorem dX2_noise_27 : decode cX2_noise 27 = .ok (.iconst 4, 1) := by decide +kernel
theorem dX2_noise_28 : decode cX2_noise 28 = .ok (.iaload, 1) := by decide +kernel
theorem dX2_noise_29 : decode cX2_noise 29 = .ok (.iconst 2, 1) := by decide +kernel
theorem dX2_noise_30 : decode cX2_noise 30 = .ok (.if_icmp .ne 10, 3) := by decide +kernel
theorem dX2_noise_33 : decode cX2_noise 33 = .ok (.iload_n 1, 1) := by decide +kernel
theorem dX2_noise_34 : decode cX2_noise 34 = .ok (.aload 5, 2) := by decide +kernel
theorem dX2_noise_36 : decode cX2_noise 36 = .ok (.iconst 2, 1) := by decide +kernel
theorem dX2_noise_37 : decode cX2_noise 37 = .ok (.iaload, 1) := by decide +kernel
theorem dX2_noise_38 : decode cX2_noise 38 = .ok (.iadd, 1) := by decide +kernel
theorem dX2_noise_39 : decode cX2_noise 39 = .ok (.istore_n 1, 1) := by decide +kernel
theorem dX2_noise_40 : decode cX2_noise 40 = .ok (.iinc 4 1, 3) := by decide +kernel
theorem dX2_noise_43 : decode cX2_noise 43 = .ok (.goto (-30), 3) := by decide +kernel
theorem dX2_noise_46 : decode cX2_noise 46 = .ok (.iload_n 1, 1) := by decide +kernel
theorem dX2_noise_47 : decode cX2_noise 47 = .ok (.ireturn, 1) := by decide +kernel
theorem dX2_count_0 : decode cX2_count 0 = .ok (.iconst 0, 1) := by decide +kernel
theorem dX2_count_1 : decode cX2_count 1 = .ok (.istore_n 2, 1) := by decide +kernel
theorem dX2_count_2 : decode cX2_count 2 = .ok (.aload_n 0, 1) := by decide +kernel
theorem dX2_count_3 : decode cX2_count 3 = .ok (.getfield 15, 3) := by decide +kernel
theorem dX2_count_6 : decode cX2_count 6 = .ok (.astore_n 3, 1) := by decide +kernel
theorem dX2_count_7 : decode cX2_count 7 = .ok (.aload_n 3, 1) := by decide +kernel
theorem dX2_count_8 : decode cX2_count 8 = .ok (.arraylength, 1) := by decide +kernel
theorem dX2_count_9 : decode cX2_count 9 = .ok (.istore 4, 2) := by decide +kernel
theorem dX2_count_11 : decode cX2_count 11 = .ok (.iconst 0, 1) := by decide +kernel
theorem dX2_count_12 : decode cX2_count 12 = .ok (.istore 5, 2) := by decide +kernel
theorem dX2_count_14 : decode cX2_count 14 = .ok (.iload 5, 2) := by decide +kernel
theorem dX2_count_16 : decode cX2_count 16 = .ok (.iload 4, 2) := by decide +kernel
theorem dX2_count_18 : decode cX2_count 18 = .ok (.if_icmp .ge 26, 3) := by decide +kernel
theorem dX2_count_21 : decode cX2_count 21 = .ok (.aload_n 3, 1) := by decide +kernel
theorem dX2_count_22 : decode cX2_count 22 = .ok (.iload 5, 2) := by decide +kernel
theorem dX2_count_24 : decode cX2_count 24 = .ok (.aaload, 1) := by decide +kernel
theorem dX2_count_25 : decode cX2_count 25 = .ok (.astore 6, 2) := by decide +kernel
theorem dX2_count_27 : decode cX2_count 27 = .ok (.aload 6, 2) := by decide +kernel
theorem dX2_count_29 : decode cX2_count 29 = .ok (.iconst 4, 1) := by decide +kernel
theorem dX2_count_30 : decode cX2_count 30 = .ok (.iaload, 1) := by decide +kernel
theorem dX2_count_31 : decode cX2_count 31 = .ok (.iload_n 1, 1) := by decide +kernel
theorem dX2_count_32 : decode cX2_count 32 = .ok (.if_icmp .ne 6, 3) := by decide +kernel
theorem dX2_count_35 : decode cX2_count 35 = .ok (.iinc 2 1, 3) := by decide +kernel
theorem dX2_count_38 : decode cX2_count 38 = .ok (.iinc 5 1, 3) := by decide +kernel
theorem dX2_count_41 : decode cX2_count 41 = .ok (.goto (-27), 3) := by decide +kernel
theorem dX2_count_44 : decode cX2_count 44 = .ok (.iload_n 2, 1) := by decide +kernel
theorem dX2_count_45 : decode cX2_count 45 = .ok (.ireturn, 1) := by decide +kernel
theorem dX2_hidden_0 : decode cX2_hidden 0 = .ok (.aload_n 0, 1) := by decide +kernel
theorem dX2_hidden_1 : decode cX2_hidden 1 = .ok (.iconst 0, 1) := by decide +kernel
theorem dX2_hidden_2 : decode cX2_hidden 2 = .ok (.iaload, 1) := by decide +kernel
theorem dX2_hidden_3 : decode cX2_hidden 3 = .ok (.aload_n 0, 1) := by decide +kernel
theorem dX2_hidden_4 : decode cX2_hidden 4 = .ok (.iconst 1, 1) := by decide +kernel
theorem dX2_hidden_5 : decode cX2_hidden 5 = .ok (.iaload, 1) := by decide +kernel
theorem dX2_hidden_6 : decode cX2_hidden 6 = .ok (.if_icmp .le 13, 3) := by decide +kernel
theorem dX2_hidden_9 : decode cX2_hidden 9 = .ok (.aload_n 0, 1) := by decide +kernel
theorem dX2_hidden_10 : decode cX2_hidden 10 = .ok (.iconst 0, 1) := by decide +kernel
theorem dX2_hidden_11 : decode cX2_hidden 11 = .ok (.iaload, 1) := by decide +kernel
theorem dX2_hidden_12 : decode cX2_hidden 12 = .ok (.aload_n 0, 1) := by decide +kernel
theorem dX2_hidden_13 : decode cX2_hidden 13 = .ok (.iconst 1, 1) := by decide +kernel
theorem dX2_hidden_14 : decode cX2_hidden 14 = .ok (.iaload, 1) := by decide +kernel
theorem dX2_hidden_15 : decode cX2_hidden 15 = .ok (.isub, 1) := by decide +kernel
theorem dX2_hidden_16 : decode cX2_hidden 16 = .ok (.goto 4, 3) := by decide +kernel
theorem dX2_hidden_19 : decode cX2_hidden 19 = .ok (.iconst 0, 1) := by decide +kernel
theorem dX2_hidden_20 : decode cX2_hidden 20 = .ok (.ireturn, 1) := by decide +kernel
theorem dX2_next_0 : decode cX2_next 0 = .ok (.iconst 0, 1) := by decide +kernel
theorem dX2_next_1 : decode cX2_next 1 = .ok (.istore_n 1, 1) := by decide +kernel
theorem dX2_next_2 : decode cX2_next 2 = .ok (.iload_n 1, 1) := by decide +kernel
theorem dX2_next_3 : decode cX2_next 3 = .ok (.aload_n 0, 1) := by decide +kernel
theorem dX2_next_4 : decode cX2_next 4 = .ok (.getfield 15, 3) := by decide +kernel
theorem dX2_next_7 : decode cX2_next 7 = .ok (.arraylength, 1) := by decide +kernel
theorem dX2_next_8 : decode cX2_next 8 = .ok (.if_icmp .ge 20, 3) := by decide +kernel
theorem dX2_next_11 : decode cX2_next 11 = .ok (.aload_n 0, 1) := by decide +kernel
theorem dX2_next_12 : decode cX2_next 12 = .ok (.getfield 15, 3) := by decide +kernel
theorem dX2_next_15 : decode cX2_next 15 = .ok (.iload_n 1, 1) := by decide +kernel
theorem dX2_next_16 : decode cX2_next 16 = .ok (.aaload, 1) := by decide +kernel
theorem dX2_next_17 : decode cX2_next 17 = .ok (.iconst 4, 1) := by decide +kernel
theorem dX2_next_18 : decode cX2_next 18 = .ok (.iaload, 1) := by decide +kernel
theorem dX2_next_19 : decode cX2_next 19 = .ok (.ifCond .eq 9, 3) := by decide +kernel
theorem dX2_next_22 : decode cX2_next 22 = .ok (.iinc 1 1, 3) := by decide +kernel
theorem dX2_next_25 : decode cX2_next 25 = .ok (.goto (-23), 3) := by decide +kernel
theorem dX2_next_28 : decode cX2_next 28 = .ok (.iload_n 1, 1) := by decide +kernel
theorem dX2_next_29 : decode cX2_next 29 = .ok (.aload_n 0, 1) := by decide +kernel
theorem dX2_next_30 : decode cX2_next 30 = .ok (.getfield 15, 3) := by decide +kernel
theorem dX2_next_33 : decode cX2_next 33 = .ok (.arraylength, 1) := by decide +kernel
theorem dX2_next_34 : decode cX2_next 34 = .ok (.if_icmp .ne 7, 3) := by decide +kernel
theorem dX2_next_37 : decode cX2_next 37 = .ok (.iconst (-1), 1) := by decide +kernel
theorem dX2_next_38 : decode cX2_next 38 = .ok (.goto 4, 3) := by decide +kernel
theorem dX2_next_41 : decode cX2_next 41 = .ok (.iload_n 1, 1) := by decide +kernel
theorem dX2_next_42 : decode cX2_next 42 = .ok (.ireturn, 1) := by decide +kernel
theorem dX2_finds_0 : decode cX2_finds 0 = .ok (.aload_n 1, 1) := by decide +kernel
theorem dX2_finds_1 : decode cX2_finds 1 = .ok (.iconst 0, 1) := by decide +kernel
theorem dX2_finds_2 : decode cX2_finds 2 = .ok (.iaload, 1) := by decide +kernel
theorem dX2_finds_3 : decode cX2_finds 3 = .ok (.aload_n 1, 1) := by decide +kernel
theorem dX2_finds_4 : decode cX2_finds 4 = .ok (.iconst 1, 1) := by decide +kernel
theorem dX2_finds_5 : decode cX2_finds 5 = .ok (.iaload, 1) := by decide +kernel
theorem dX2_finds_6 : decode cX2_finds 6 = .ok (.if_icmp .le 23, 3) := by decide +kernel
theorem dX2_finds_9 : decode cX2_finds 9 = .ok (.aload_n 1, 1) := by decide +kernel
theorem dX2_finds_10 : decode cX2_finds 10 = .ok (.iconst 0, 1) := by decide +kernel
theorem dX2_finds_11 : decode cX2_finds 11 = .ok (.iaload, 1) := by decide +kernel
theorem dX2_finds_12 : decode cX2_finds 12 = .ok (.aload_n 1, 1) := by decide +kernel
theorem dX2_finds_13 : decode cX2_finds 13 = .ok (.iconst 1, 1) := by decide +kernel
theorem dX2_finds_14 : decode cX2_finds 14 = .ok (.iaload, 1) := by decide +kernel
theorem dX2_finds_15 : decode cX2_finds 15 = .ok (.isub, 1) := by decide +kernel
theorem dX2_finds_16 : decode cX2_finds 16 = .ok (.aload_n 0, 1) := by decide +kernel
theorem dX2_finds_17 : decode cX2_finds 17 = .ok (.iconst 0, 1) := by decide +kernel
theorem dX2_finds_18 : decode cX2_finds 18 = .ok (.iaload, 1) := by decide +kernel
theorem dX2_finds_19 : decode cX2_finds 19 = .ok (.iadd, 1) := by decide +kernel
theorem dX2_finds_20 : decode cX2_finds 20 = .ok (.bipush 9, 2) := by decide +kernel
theorem dX2_finds_22 : decode cX2_finds 22 = .ok (.if_icmp .le 7, 3) := by decide +kernel
theorem dX2_finds_25 : decode cX2_finds 25 = .ok (.iconst 1, 1) := by decide +kernel
theorem dX2_finds_26 : decode cX2_finds 26 = .ok (.goto 4, 3) := by decide +kernel
theorem dX2_finds_29 : decode cX2_finds 29 = .ok (.iconst 0, 1) := by decide +kernel
theorem dX2_finds_30 : decode cX2_finds 30 = .ok (.ireturn, 1) := by decide +kernel
set_option maxRecDepth 20000 in
theorem ggX2_pass_X2_next : GoodIn wsX2_pass wsX2_next := goodIn_r _ [11, 3, 22, 23, 24, 25, 26] (by decide +kernel) (by decide +kernel)
set_option maxRecDepth 20000 in
theorem gX2_pass_X2_next : GoodIn wsX2_pass (wsV RX2 22 RX2 yX2_next wsX2_next) := goodIn_app (goodIn_of _ (by decide +kernel)) ggX2_pass_X2_next
set_option maxRecDepth 20000 in
theorem ggX2_pass_X2_noise : GoodIn wsX2_pass wsX2_noise := goodIn_r _ [15, 3, 22, 23, 24, 25, 26] (by decide +kernel) (by decide +kernel)
set_option maxRecDepth 20000 in
theorem gX2_pass_X2_noise : GoodIn wsX2_pass (wsV RX2 26 RX2 yX2_noise wsX2_noise) := goodIn_app (goodIn_of _ (by decide +kernel)) ggX2_pass_X2_noise
set_option maxRecDepth 20000 in
theorem ggX2_pass_X2_finds : GoodIn wsX2_pass wsX2_finds := goodIn_r _ [18] (by decide +kernel) (by decide +kernel)
set_option maxRecDepth 20000 in
theorem gX2_pass_X2_finds : GoodIn wsX2_pass (va_wsS RX2 29 yX2_finds wsX2_finds) := goodIn_app (goodIn_of _ (by decide +kernel)) ggX2_pass_X2_finds
set_option maxRecDepth 20000 in
theorem ggX2_pass_X2_hidden : GoodIn wsX2_pass wsX2_hidden := goodIn_r _ [21] (by decide +kernel) (by decide +kernel)
set_option maxRecDepth 20000 in
theorem gX2_pass_X2_hidden : GoodIn wsX2_pass (va_wsS RX2 36 yX2_hidden wsX2_hidden) := goodIn_app (goodIn_of _ (by decide +kernel)) ggX2_pass_X2_hidden
theorem dX2_pass_0 : decode cX2_pass 0 = .ok (.aload_n 0, 1) := by decide +kernel
theorem dX2_pass_1 : decode cX2_pass 1 = .ok (.getfield 9, 3) := by decide +kernel
theorem dX2_pass_4 : decode cX2_pass 4 = .ok (.arraylength, 1) := by decide +kernel
theorem dX2_pass_5 : decode cX2_pass 5 = .ok (.newarray .boolean, 2) := by decide +kernel
theorem dX2_pass_7 : decode cX2_pass 7 = .ok (.astore_n 1, 1) := by decide +kernel
theorem dX2_pass_8 : decode cX2_pass 8 = .ok (.iconst 0, 1) := by decide +kernel
theorem dX2_pass_9 : decode cX2_pass 9 = .ok (.istore_n 2, 1) := by decide +kernel
theorem dX2_pass_10 : decode cX2_pass 10 = .ok (.iload_n 2, 1) := by decide +kernel
theorem dX2_pass_11 : decode cX2_pass 11 = .ok (.aload_n 0, 1) := by decide +kernel
theorem dX2_pass_12 : decode cX2_pass 12 = .ok (.getfield 9, 3) := by decide +kernel
theorem dX2_pass_15 : decode cX2_pass 15 = .ok (.arraylength, 1) := by decide +kernel
theorem dX2_pass_16 : decode cX2_pass 16 = .ok (.if_icmp .ge 28, 3) := by decide +kernel
theorem dX2_pass_19 : decode cX2_pass 19 = .ok (.aload_n 1, 1) := by decide +kernel
theorem dX2_pass_20 : decode cX2_pass 20 = .ok (.iload_n 2, 1) := by decide +kernel
theorem dX2_pass_21 : decode cX2_pass 21 = .ok (.aload_n 0, 1) := by decide +kernel
theorem dX2_pass_22 : decode cX2_pass 22 = .ok (.getfield 9, 3) := by decide +kernel
theorem dX2_pass_25 : decode cX2_pass 25 = .ok (.iload_n 2, 1) := by decide +kernel
theorem dX2_pass_26 : decode cX2_pass 26 = .ok (.aaload, 1) := by decide +kernel
theorem dX2_pass_27 : decode cX2_pass 27 = .ok (.iconst 1, 1) := by decide +kernel
theorem dX2_pass_28 : decode cX2_pass 28 = .ok (.iaload, 1) := by decide +kernel
theorem dX2_pass_29 : decode cX2_pass 29 = .ok (.ifCond .ge 7, 3) := by decide +kernel
theorem dX2_pass_32 : decode cX2_pass 32 = .ok (.iconst 1, 1) := by decide +kernel
theorem dX2_pass_33 : decode cX2_pass 33 = .ok (.goto 4, 3) := by decide +kernel
theorem dX2_pass_36 : decode cX2_pass 36 = .ok (.iconst 0, 1) := by decide +kernel
theorem dX2_pass_37 : decode cX2_pass 37 = .ok (.bastore, 1) := by decide +kernel
theorem dX2_pass_38 : decode cX2_pass 38 = .ok (.iinc 2 1, 3) := by decide +kernel
theorem dX2_pass_41 : decode cX2_pass 41 = .ok (.goto (-31), 3) := by decide +kernel
theorem dX2_pass_44 : decode cX2_pass 44 = .ok (.aload_n 0, 1) := by decide +kernel
theorem dX2_pass_45 : decode cX2_pass 45 = .ok (.getfield 15, 3) := by decide +kernel
theorem dX2_pass_48 : decode cX2_pass 48 = .ok (.astore_n 2, 1) := by decide +kernel
theorem dX2_pass_49 : decode cX2_pass 49 = .ok (.aload_n 2, 1) := by decide +kernel
theorem dX2_pass_50 : decode cX2_pass 50 = .ok (.arraylength, 1) := by decide +kernel
theorem dX2_pass_51 : decode cX2_pass 51 = .ok (.istore_n 3, 1) := by decide +kernel
theorem dX2_pass_52 : decode cX2_pass 52 = .ok (.iconst 0, 1) := by decide +kernel
theorem dX2_pass_53 : decode cX2_pass 53 = .ok (.istore 4, 2) := by decide +kernel
theorem dX2_pass_55 : decode cX2_pass 55 = .ok (.iload 4, 2) := by decide +kernel
theorem dX2_pass_57 : decode cX2_pass 57 = .ok (.iload_n 3, 1) := by decide +kernel
theorem dX2_pass_58 : decode cX2_pass 58 = .ok (.if_icmp .ge 83, 3) := by decide +kernel
theorem dX2_pass_61 : decode cX2_pass 61 = .ok (.aload_n 2, 1) := by decide +kernel
theorem dX2_pass_62 : decode cX2_pass 62 = .ok (.iload 4, 2) := by decide +kernel
theorem dX2_pass_64 : decode cX2_pass 64 = .ok (.aaload, 1) := by decide +kernel
theorem dX2_pass_65 : decode cX2_pass 65 = .ok (.astore 5, 2) := by decide +kernel
theorem dX2_pass_67 : decode cX2_pass 67 = .ok (.aload 5, 2) := by decide +kernel
theorem dX2_pass_69 : decode cX2_pass 69 = .ok (.iconst 4, 1) := by decide +kernel
theorem dX2_pass_70 : decode cX2_pass 70 = .ok (.iaload, 1) := by decide +kernel
theorem dX2_pass_71 : decode cX2_pass 71 = .ok (.iconst 2, 1) := by decide +kernel
theorem dX2_pass_72 : decode cX2_pass 72 = .ok (.if_icmp .ne 26, 3) := by decide +kernel
theorem dX2_pass_75 : decode cX2_pass 75 = .ok (.aload 5, 2) := by decide +kernel
theorem dX2_pass_77 : decode cX2_pass 77 = .ok (.iconst 5, 1) := by decide +kernel
theorem dX2_pass_78 : decode cX2_pass 78 = .ok (.dup2, 1) := by decide +kernel
theorem dX2_pass_79 : decode cX2_pass 79 = .ok (.iaload, 1) := by decide +kernel
theorem dX2_pass_80 : decode cX2_pass 80 = .ok (.iconst 1, 1) := by decide +kernel
theorem dX2_pass_81 : decode cX2_pass 81 = .ok (.isub, 1) := by decide +kernel
theorem dX2_pass_82 : decode cX2_pass 82 = .ok (.iastore, 1) := by decide +kernel
theorem dX2_pass_83 : decode cX2_pass 83 = .ok (.aload 5, 2) := by decide +kernel
theorem dX2_pass_85 : decode cX2_pass 85 = .ok (.iconst 5, 1) := by decide +kernel
theorem dX2_pass_86 : decode cX2_pass 86 = .ok (.iaload, 1) := by decide +kernel
theorem dX2_pass_87 : decode cX2_pass 87 = .ok (.ifCond .ne 48, 3) := by decide +kernel
theorem dX2_pass_90 : decode cX2_pass 90 = .ok (.aload 5, 2) := by decide +kernel
theorem dX2_pass_92 : decode cX2_pass 92 = .ok (.iconst 4, 1) := by decide +kernel
theorem dX2_pass_93 : decode cX2_pass 93 = .ok (.iconst 3, 1) := by decide +kernel
theorem dX2_pass_94 : decode cX2_pass 94 = .ok (.iastore, 1) := by decide +kernel
theorem dX2_pass_95 : decode cX2_pass 95 = .ok (.goto 40, 3) := by decide +kernel
theorem dX2_pass_98 : decode cX2_pass 98 = .ok (.aload 5, 2) := by decide +kernel
theorem dX2_pass_100 : decode cX2_pass 100 = .ok (.iconst 4, 1) := by decide +kernel
theorem dX2_pass_101 : decode cX2_pass 101 = .ok (.iaload, 1) := by decide +kernel
theorem dX2_pass_102 : decode cX2_pass 102 = .ok (.ifCond .ne 33, 3) := by decide +kernel
theorem dX2_pass_105 : decode cX2_pass 105 = .ok (.aload 5, 2) := by decide +kernel
theorem dX2_pass_107 : decode cX2_pass 107 = .ok (.iconst 3, 1) := by decide +kernel
theorem dX2_pass_108 : decode cX2_pass 108 = .ok (.dup2, 1) := by decide +kernel
theorem dX2_pass_109 : decode cX2_pass 109 = .ok (.iaload, 1) := by decide +kernel
theorem dX2_pass_110 : decode cX2_pass 110 = .ok (.iconst 1, 1) := by decide +kernel
theorem dX2_pass_111 : decode cX2_pass 111 = .ok (.isub, 1) := by decide +kernel
theorem dX2_pass_112 : decode cX2_pass 112 = .ok (.iastore, 1) := by decide +kernel
theorem dX2_pass_113 : decode cX2_pass 113 = .ok (.aload 5, 2) := by decide +kernel
theorem dX2_pass_115 : decode cX2_pass 115 = .ok (.iconst 3, 1) := by decide +kernel
theorem dX2_pass_116 : decode cX2_pass 116 = .ok (.iaload, 1) := by decide +kernel
theorem dX2_pass_117 : decode cX2_pass 117 = .ok (.ifCond .ne 18, 3) := by decide +kernel
theorem dX2_pass_120 : decode cX2_pass 120 = .ok (.aload 5, 2) := by decide +kernel
theorem dX2_pass_122 : decode cX2_pass 122 = .ok (.iconst 4, 1) := by decide +kernel
theorem dX2_pass_123 : decode cX2_pass 123 = .ok (.iconst 4, 1) := by decide +kernel
theorem dX2_pass_124 : decode cX2_pass 124 = .ok (.iastore, 1) := by decide +kernel
theorem dX2_pass_125 : decode cX2_pass 125 = .ok (.aload_n 0, 1) := by decide +kernel
theorem dX2_pass_126 : decode cX2_pass 126 = .ok (.dup, 1) := by decide +kernel
theorem dX2_pass_127 : decode cX2_pass 127 = .ok (.getfield 18, 3) := by decide +kernel
theorem dX2_pass_130 : decode cX2_pass 130 = .ok (.iconst 1, 1) := by decide +kernel
theorem dX2_pass_131 : decode cX2_pass 131 = .ok (.iadd, 1) := by decide +kernel
theorem dX2_pass_132 : decode cX2_pass 132 = .ok (.putfield 18, 3) := by decide +kernel
theorem dX2_pass_135 : decode cX2_pass 135 = .ok (.iinc 4 1, 3) := by decide +kernel
theorem dX2_pass_138 : decode cX2_pass 138 = .ok (.goto (-83), 3) := by decide +kernel
theorem dX2_pass_141 : decode cX2_pass 141 = .ok (.iconst 0, 1) := by decide +kernel
theorem dX2_pass_142 : decode cX2_pass 142 = .ok (.istore_n 2, 1) := by decide +kernel
theorem dX2_pass_143 : decode cX2_pass 143 = .ok (.iload_n 2, 1) := by decide +kernel
theorem dX2_pass_144 : decode cX2_pass 144 = .ok (.aload_n 0, 1) := by decide +kernel
theorem dX2_pass_145 : decode cX2_pass 145 = .ok (.getfield 9, 3) := by decide +kernel
theorem dX2_pass_148 : decode cX2_pass 148 = .ok (.arraylength, 1) := by decide +kernel
theorem dX2_pass_149 : decode cX2_pass 149 = .ok (.if_icmp .ge 176, 3) := by decide +kernel
theorem dX2_pass_152 : decode cX2_pass 152 = .ok (.aload_n 0, 1) := by decide +kernel
theorem dX2_pass_153 : decode cX2_pass 153 = .ok (.getfield 9, 3) := by decide +kernel
theorem dX2_pass_156 : decode cX2_pass 156 = .ok (.iload_n 2, 1) := by decide +kernel
theorem dX2_pass_157 : decode cX2_pass 157 = .ok (.aaload, 1) := by decide +kernel
theorem dX2_pass_158 : decode cX2_pass 158 = .ok (.astore_n 3, 1) := by decide +kernel
theorem dX2_pass_159 : decode cX2_pass 159 = .ok (.aload_n 1, 1) := by decide +kernel
theorem dX2_pass_160 : decode cX2_pass 160 = .ok (.iload_n 2, 1) := by decide +kernel
theorem dX2_pass_161 : decode cX2_pass 161 = .ok (.baload, 1) := by decide +kernel
theorem dX2_pass_162 : decode cX2_pass 162 = .ok (.ifCond .eq 71, 3) := by decide +kernel
theorem dX2_pass_165 : decode cX2_pass 165 = .ok (.aload_n 0, 1) := by decide +kernel
theorem dX2_pass_166 : decode cX2_pass 166 = .ok (.invokevirtual 22, 3) := by decide +kernel
theorem dX2_pass_169 : decode cX2_pass 169 = .ok (.istore 4, 2) := by decide +kernel
theorem dX2_pass_171 : decode cX2_pass 171 = .ok (.iload 4, 2) := by decide +kernel
theorem dX2_pass_173 : decode cX2_pass 173 = .ok (.ifCond .ge 21, 3) := by decide +kernel
theorem dX2_pass_176 : decode cX2_pass 176 = .ok (.aload_n 3, 1) := by decide +kernel
theorem dX2_pass_177 : decode cX2_pass 177 = .ok (.iconst 0, 1) := by decide +kernel
theorem dX2_pass_178 : decode cX2_pass 178 = .ok (.iaload, 1) := by decide +kernel
theorem dX2_pass_179 : decode cX2_pass 179 = .ok (.bipush 9, 2) := by decide +kernel
theorem dX2_pass_181 : decode cX2_pass 181 = .ok (.if_icmp .ge 138, 3) := by decide +kernel
theorem dX2_pass_184 : decode cX2_pass 184 = .ok (.aload_n 3, 1) := by decide +kernel
theorem dX2_pass_185 : decode cX2_pass 185 = .ok (.iconst 0, 1) := by decide +kernel
theorem dX2_pass_186 : decode cX2_pass 186 = .ok (.dup2, 1) := by decide +kernel
theorem dX2_pass_187 : decode cX2_pass 187 = .ok (.iaload, 1) := by decide +kernel
theorem dX2_pass_188 : decode cX2_pass 188 = .ok (.iconst 1, 1) := by decide +kernel
theorem dX2_pass_189 : decode cX2_pass 189 = .ok (.iadd, 1) := by decide +kernel
theorem dX2_pass_190 : decode cX2_pass 190 = .ok (.iastore, 1) := by decide +kernel
theorem dX2_pass_191 : decode cX2_pass 191 = .ok (.goto 128, 3) := by decide +kernel
theorem dX2_pass_194 : decode cX2_pass 194 = .ok (.aload_n 3, 1) := by decide +kernel
theorem dX2_pass_195 : decode cX2_pass 195 = .ok (.iconst 1, 1) := by decide +kernel
theorem dX2_pass_196 : decode cX2_pass 196 = .ok (.iload 4, 2) := by decide +kernel
theorem dX2_pass_198 : decode cX2_pass 198 = .ok (.iastore, 1) := by decide +kernel
theorem dX2_pass_199 : decode cX2_pass 199 = .ok (.aload_n 3, 1) := by decide +kernel
theorem dX2_pass_200 : decode cX2_pass 200 = .ok (.iconst 2, 1) := by decide +kernel
theorem dX2_pass_201 : decode cX2_pass 201 = .ok (.iconst 2, 1) := by decide +kernel
theorem dX2_pass_202 : decode cX2_pass 202 = .ok (.aload_n 0, 1) := by decide +kernel
theorem dX2_pass_203 : decode cX2_pass 203 = .ok (.getfield 15, 3) := by decide +kernel
theorem dX2_pass_206 : decode cX2_pass 206 = .ok (.iload 4, 2) := by decide +kernel
theorem dX2_pass_208 : decode cX2_pass 208 = .ok (.aaload, 1) := by decide +kernel
theorem dX2_pass_209 : decode cX2_pass 209 = .ok (.iconst 1, 1) := by decide +kernel
theorem dX2_pass_210 : decode cX2_pass 210 = .ok (.iaload, 1) := by decide +kernel
theorem dX2_pass_211 : decode cX2_pass 211 = .ok (.iadd, 1) := by decide +kernel
theorem dX2_pass_212 : decode cX2_pass 212 = .ok (.aload_n 0, 1) := by decide +kernel
theorem dX2_pass_213 : decode cX2_pass 213 = .ok (.invokevirtual 26, 3) := by decide +kernel
theorem dX2_pass_216 : decode cX2_pass 216 = .ok (.iconst 4, 1) := by decide +kernel
theorem dX2_pass_217 : decode cX2_pass 217 = .ok (.idiv, 1) := by decide +kernel
theorem dX2_pass_218 : decode cX2_pass 218 = .ok (.iadd, 1) := by decide +kernel
theorem dX2_pass_219 : decode cX2_pass 219 = .ok (.iastore, 1) := by decide +kernel
theorem dX2_pass_220 : decode cX2_pass 220 = .ok (.aload_n 0, 1) := by decide +kernel
theorem dX2_pass_221 : decode cX2_pass 221 = .ok (.getfield 15, 3) := by decide +kernel
theorem dX2_pass_224 : decode cX2_pass 224 = .ok (.iload 4, 2) := by decide +kernel
theorem dX2_pass_226 : decode cX2_pass 226 = .ok (.aaload, 1) := by decide +kernel
theorem dX2_pass_227 : decode cX2_pass 227 = .ok (.iconst 4, 1) := by decide +kernel
theorem dX2_pass_228 : decode cX2_pass 228 = .ok (.iconst 1, 1) := by decide +kernel
theorem dX2_pass_229 : decode cX2_pass 229 = .ok (.iastore, 1) := by decide +kernel
theorem dX2_pass_230 : decode cX2_pass 230 = .ok (.goto 89, 3) := by decide +kernel
theorem dX2_pass_233 : decode cX2_pass 233 = .ok (.aload_n 3, 1) := by decide +kernel
theorem dX2_pass_234 : decode cX2_pass 234 = .ok (.iconst 2, 1) := by decide +kernel
theorem dX2_pass_235 : decode cX2_pass 235 = .ok (.dup2, 1) := by decide +kernel
theorem dX2_pass_236 : decode cX2_pass 236 = .ok (.iaload, 1) := by decide +kernel
theorem dX2_pass_237 : decode cX2_pass 237 = .ok (.iconst 1, 1) := by decide +kernel
theorem dX2_pass_238 : decode cX2_pass 238 = .ok (.isub, 1) := by decide +kernel
theorem dX2_pass_239 : decode cX2_pass 239 = .ok (.iastore, 1) := by decide +kernel
theorem dX2_pass_240 : decode cX2_pass 240 = .ok (.aload_n 3, 1) := by decide +kernel
theorem dX2_pass_241 : decode cX2_pass 241 = .ok (.iconst 2, 1) := by decide +kernel
theorem dX2_pass_242 : decode cX2_pass 242 = .ok (.iaload, 1) := by decide +kernel
theorem dX2_pass_243 : decode cX2_pass 243 = .ok (.ifCond .le 6, 3) := by decide +kernel
theorem dX2_pass_246 : decode cX2_pass 246 = .ok (.goto 73, 3) := by decide +kernel
theorem dX2_pass_249 : decode cX2_pass 249 = .ok (.aload_n 0, 1) := by decide +kernel
theorem dX2_pass_250 : decode cX2_pass 250 = .ok (.getfield 15, 3) := by decide +kernel
theorem dX2_pass_253 : decode cX2_pass 253 = .ok (.aload_n 3, 1) := by decide +kernel
theorem dX2_pass_254 : decode cX2_pass 254 = .ok (.iconst 1, 1) := by decide +kernel
theorem dX2_pass_255 : decode cX2_pass 255 = .ok (.iaload, 1) := by decide +kernel
theorem dX2_pass_256 : decode cX2_pass 256 = .ok (.aaload, 1) := by decide +kernel
theorem dX2_pass_257 : decode cX2_pass 257 = .ok (.astore 4, 2) := by decide +kernel
theorem dX2_pass_259 : decode cX2_pass 259 = .ok (.aload_n 3, 1) := by decide +kernel
theorem dX2_pass_260 : decode cX2_pass 260 = .ok (.aload 4, 2) := by decide +kernel
theorem dX2_pass_262 : decode cX2_pass 262 = .ok (.invokestatic 29, 3) := by decide +kernel
theorem dX2_pass_265 : decode cX2_pass 265 = .ok (.ifCond .eq 27, 3) := by decide +kernel
theorem dX2_pass_268 : decode cX2_pass 268 = .ok (.aload_n 0, 1) := by decide +kernel
theorem dX2_pass_269 : decode cX2_pass 269 = .ok (.dup, 1) := by decide +kernel
theorem dX2_pass_270 : decode cX2_pass 270 = .ok (.getfield 33, 3) := by decide +kernel
theorem dX2_pass_273 : decode cX2_pass 273 = .ok (.iconst 3, 1) := by decide +kernel
theorem dX2_pass_274 : decode cX2_pass 274 = .ok (.aload 4, 2) := by decide +kernel
theorem dX2_pass_276 : decode cX2_pass 276 = .ok (.invokestatic 36, 3) := by decide +kernel
theorem dX2_pass_279 : decode cX2_pass 279 = .ok (.imul, 1) := by decide +kernel
theorem dX2_pass_280 : decode cX2_pass 280 = .ok (.iadd, 1) := by decide +kernel
theorem dX2_pass_281 : decode cX2_pass 281 = .ok (.putfield 33, 3) := by decide +kernel
theorem dX2_pass_284 : decode cX2_pass 284 = .ok (.aload 4, 2) := by decide +kernel
theorem dX2_pass_286 : decode cX2_pass 286 = .ok (.iconst 4, 1) := by decide +kernel
theorem dX2_pass_287 : decode cX2_pass 287 = .ok (.iconst 4, 1) := by decide +kernel
theorem dX2_pass_288 : decode cX2_pass 288 = .ok (.iastore, 1) := by decide +kernel
theorem dX2_pass_289 : decode cX2_pass 289 = .ok (.goto 13, 3) := by decide +kernel
theorem dX2_pass_292 : decode cX2_pass 292 = .ok (.aload 4, 2) := by decide +kernel
theorem dX2_pass_294 : decode cX2_pass 294 = .ok (.iconst 4, 1) := by decide +kernel
theorem dX2_pass_295 : decode cX2_pass 295 = .ok (.iconst 2, 1) := by decide +kernel
theorem dX2_pass_296 : decode cX2_pass 296 = .ok (.iastore, 1) := by decide +kernel
theorem dX2_pass_297 : decode cX2_pass 297 = .ok (.aload 4, 2) := by decide +kernel
theorem dX2_pass_299 : decode cX2_pass 299 = .ok (.iconst 5, 1) := by decide +kernel
theorem dX2_pass_300 : decode cX2_pass 300 = .ok (.iconst 5, 1) := by decide +kernel
theorem dX2_pass_301 : decode cX2_pass 301 = .ok (.iastore, 1) := by decide +kernel
theorem dX2_pass_302 : decode cX2_pass 302 = .ok (.aload_n 3, 1) := by decide +kernel
theorem dX2_pass_303 : decode cX2_pass 303 = .ok (.iconst 1, 1) := by decide +kernel
theorem dX2_pass_304 : decode cX2_pass 304 = .ok (.iconst (-1), 1) := by decide +kernel
theorem dX2_pass_305 : decode cX2_pass 305 = .ok (.iastore, 1) := by decide +kernel
theorem dX2_pass_306 : decode cX2_pass 306 = .ok (.aload_n 3, 1) := by decide +kernel
theorem dX2_pass_307 : decode cX2_pass 307 = .ok (.iconst 0, 1) := by decide +kernel
theorem dX2_pass_308 : decode cX2_pass 308 = .ok (.iaload, 1) := by decide +kernel
theorem dX2_pass_309 : decode cX2_pass 309 = .ok (.ifCond .le 10, 3) := by decide +kernel
theorem dX2_pass_312 : decode cX2_pass 312 = .ok (.aload_n 3, 1) := by decide +kernel
theorem dX2_pass_313 : decode cX2_pass 313 = .ok (.iconst 0, 1) := by decide +kernel
theorem dX2_pass_314 : decode cX2_pass 314 = .ok (.dup2, 1) := by decide +kernel
theorem dX2_pass_315 : decode cX2_pass 315 = .ok (.iaload, 1) := by decide +kernel
theorem dX2_pass_316 : decode cX2_pass 316 = .ok (.iconst 1, 1) := by decide +kernel
theorem dX2_pass_317 : decode cX2_pass 317 = .ok (.isub, 1) := by decide +kernel
theorem dX2_pass_318 : decode cX2_pass 318 = .ok (.iastore, 1) := by decide +kernel
theorem dX2_pass_319 : decode cX2_pass 319 = .ok (.iinc 2 1, 3) := by decide +kernel
theorem dX2_pass_322 : decode cX2_pass 322 = .ok (.goto (-179), 3) := by decide +kernel
theorem dX2_pass_325 : decode cX2_pass 325 = .ok (.aload_n 0, 1) := by decide +kernel
theorem dX2_pass_326 : decode cX2_pass 326 = .ok (.dup, 1) := by decide +kernel
theorem dX2_pass_327 : decode cX2_pass 327 = .ok (.getfield 40, 3) := by decide +kernel
theorem dX2_pass_330 : decode cX2_pass 330 = .ok (.iconst 1, 1) := by decide +kernel
theorem dX2_pass_331 : decode cX2_pass 331 = .ok (.iadd, 1) := by decide +kernel
theorem dX2_pass_332 : decode cX2_pass 332 = .ok (.putfield 40, 3) := by decide +kernel
theorem dX2_pass_335 : decode cX2_pass 335 = .ok (.return_, 1) := by decide +kernel
set_option maxRecDepth 20000 in
theorem ggX2_behind_X2_count : GoodIn wsX2_behind wsX2_count := goodIn_r _ [5, 6, 30, 31, 32, 33, 34] (by decide +kernel) (by decide +kernel)
set_option maxRecDepth 20000 in
theorem gX2_behind_X2_count : GoodIn wsX2_behind (wsV RX2 43 RX2 yX2_count wsX2_count) := goodIn_app (goodIn_of _ (by decide +kernel)) ggX2_behind_X2_count
set_option maxRecDepth 20000 in
theorem ggX2_behind_X2_pass : GoodIn wsX2_behind wsX2_pass := goodIn_r _ [10, 11, 12, 6, 13, 14, 15, 16, 17, 18, 4, 19, 20, 21, 22, 23, 24, 25, 26, 27, 28, 29, 30, 31, 32, 33, 34] (by decide +kernel) (by decide +kernel)
set_option maxRecDepth 20000 in
theorem gX2_behind_X2_pass : GoodIn wsX2_behind (wsV RX2 47 RX2 yX2_pass wsX2_pass) := goodIn_app (goodIn_of _ (by decide +kernel)) ggX2_behind_X2_pass
theorem dX2_behind_0 : decode cX2_behind 0 = .ok (.aload_n 0, 1) := by decide +kernel
theorem dX2_behind_1 : decode cX2_behind 1 = .ok (.iconst 3, 1) := by decide +kernel
theorem dX2_behind_2 : decode cX2_behind 2 = .ok (.invokevirtual 43, 3) := by decide +kernel
theorem dX2_behind_5 : decode cX2_behind 5 = .ok (.istore_n 2, 1) := by decide +kernel
theorem dX2_behind_6 : decode cX2_behind 6 = .ok (.iconst 0, 1) := by decide +kernel
theorem dX2_behind_7 : decode cX2_behind 7 = .ok (.istore_n 3, 1) := by decide +kernel
theorem dX2_behind_8 : decode cX2_behind 8 = .ok (.iload_n 3, 1) := by decide +kernel
theorem dX2_behind_9 : decode cX2_behind 9 = .ok (.iload_n 1, 1) := by decide +kernel
theorem dX2_behind_10 : decode cX2_behind 10 = .ok (.if_icmp .ge 13, 3) := by decide +kernel
theorem dX2_behind_13 : decode cX2_behind 13 = .ok (.aload_n 0, 1) := by decide +kernel
theorem dX2_behind_14 : decode cX2_behind 14 = .ok (.invokevirtual 47, 3) := by decide +kernel
theorem dX2_behind_17 : decode cX2_behind 17 = .ok (.iinc 3 1, 3) := by decide +kernel
theorem dX2_behind_20 : decode cX2_behind 20 = .ok (.goto (-12), 3) := by decide +kernel
theorem dX2_behind_23 : decode cX2_behind 23 = .ok (.aload_n 0, 1) := by decide +kernel
theorem dX2_behind_24 : decode cX2_behind 24 = .ok (.iconst 3, 1) := by decide +kernel
theorem dX2_behind_25 : decode cX2_behind 25 = .ok (.invokevirtual 43, 3) := by decide +kernel
theorem dX2_behind_28 : decode cX2_behind 28 = .ok (.iload_n 2, 1) := by decide +kernel
theorem dX2_behind_29 : decode cX2_behind 29 = .ok (.isub, 1) := by decide +kernel
theorem dX2_behind_30 : decode cX2_behind 30 = .ok (.ireturn, 1) := by decide +kernel
set_option maxRecDepth 20000 in
theorem ggX2_isSame_X1_minute : GoodIn wsX2_isSame wsX1_minute := goodIn_r _ [10, 11, 12, 182, 183, 184, 185, 186, 187, 188, 189, 190, 191, 192, 193, 194, 195, 196, 197, 198] (by decide +kernel) (by decide +kernel)
set_option maxRecDepth 20000 in
theorem gX2_isSame_X1_minute : GoodIn wsX2_isSame (wsV RX2 59 RX1 yX1_minute wsX1_minute) := goodIn_app (goodIn_of _ (by decide +kernel)) ggX2_isSame_X1_minute
set_option maxRecDepth 20000 in
theorem ggX2_isSame_X1_travellers : GoodIn wsX2_isSame wsX1_travellers := goodIn_r _ [16, 11, 17, 182, 183, 184, 185, 186, 187, 188, 189, 190, 191, 192, 193, 194, 195, 196, 197, 198] (by decide +kernel) (by decide +kernel)
set_option maxRecDepth 20000 in
theorem gX2_isSame_X1_travellers : GoodIn wsX2_isSame (wsV RX2 63 RX1 yX1_travellers wsX1_travellers) := goodIn_app (goodIn_of _ (by decide +kernel)) ggX2_isSame_X1_travellers
set_option maxRecDepth 20000 in
theorem ggX2_isSame_X1_waiting : GoodIn wsX2_isSame wsX1_waiting := goodIn_r _ [21, 11, 22, 23, 24, 25, 26, 27, 28, 182, 183, 184, 185, 186, 187, 188, 189, 190, 191, 192, 193, 194, 195, 196, 197, 198] (by decide +kernel) (by decide +kernel)
set_option maxRecDepth 20000 in
theorem gX2_isSame_X1_waiting : GoodIn wsX2_isSame (wsV RX2 65 RX1 yX1_waiting wsX1_waiting) := goodIn_app (goodIn_of _ (by decide +kernel)) ggX2_isSame_X1_waiting
set_option maxRecDepth 20000 in
theorem ggX2_isSame_X2_count : GoodIn wsX2_isSame wsX2_count := goodIn_r _ [33, 2, 177, 178, 179, 180, 181] (by decide +kernel) (by decide +kernel)
set_option maxRecDepth 20000 in
theorem gX2_isSame_X2_count : GoodIn wsX2_isSame (wsV RX2 43 RX2 yX2_count wsX2_count) := goodIn_app (goodIn_of _ (by decide +kernel)) ggX2_isSame_X2_count
set_option maxRecDepth 20000 in
theorem ggX2_isSame_X1_asleep : GoodIn wsX2_isSame wsX1_asleep := goodIn_r _ [37, 11, 22, 23, 24, 25, 26, 27, 28, 182, 183, 184, 185, 186, 187, 188, 189, 190, 191, 192, 193, 194, 195, 196, 197, 198] (by decide +kernel) (by decide +kernel)
set_option maxRecDepth 20000 in
theorem gX2_isSame_X1_asleep : GoodIn wsX2_isSame (wsV RX2 68 RX1 yX1_asleep wsX1_asleep) := goodIn_app (goodIn_of _ (by decide +kernel)) ggX2_isSame_X1_asleep
set_option maxRecDepth 20000 in
theorem ggX2_isSame_X1_sentBack : GoodIn wsX2_isSame wsX1_sentBack := goodIn_r _ [41, 11, 22, 23, 24, 25, 26, 27, 28, 182, 183, 184, 185, 186, 187, 188, 189, 190, 191, 192, 193, 194, 195, 196, 197, 198] (by decide +kernel) (by decide +kernel)
set_option maxRecDepth 20000 in
theorem gX2_isSame_X1_sentBack : GoodIn wsX2_isSame (wsV RX2 71 RX1 yX1_sentBack wsX1_sentBack) := goodIn_app (goodIn_of _ (by decide +kernel)) ggX2_isSame_X1_sentBack
set_option maxRecDepth 20000 in
theorem ggX2_isSame_X1_expired : GoodIn wsX2_isSame wsX1_expired := goodIn_r _ [45, 11, 46, 182, 183, 184, 185, 186, 187, 188, 189, 190, 191, 192, 193, 194, 195, 196, 197, 198] (by decide +kernel) (by decide +kernel)
set_option maxRecDepth 20000 in
theorem gX2_isSame_X1_expired : GoodIn wsX2_isSame (wsV RX2 74 RX1 yX1_expired wsX1_expired) := goodIn_app (goodIn_of _ (by decide +kernel)) ggX2_isSame_X1_expired
set_option maxRecDepth 20000 in
theorem ggX2_isSame_X1_paid : GoodIn wsX2_isSame wsX1_paid := goodIn_r _ [50, 11, 51, 182, 183, 184, 185, 186, 187, 188, 189, 190, 191, 192, 193, 194, 195, 196, 197, 198] (by decide +kernel) (by decide +kernel)
set_option maxRecDepth 20000 in
theorem gX2_isSame_X1_paid : GoodIn wsX2_isSame (wsV RX2 76 RX1 yX1_paid wsX1_paid) := goodIn_app (goodIn_of _ (by decide +kernel)) ggX2_isSame_X1_paid
set_option maxRecDepth 20000 in
theorem ggX2_isSame_X1_noise : GoodIn wsX2_isSame wsX1_noise := goodIn_r _ [55, 11, 56, 57, 58, 25, 59, 27, 28, 60, 182, 183, 184, 185, 186, 187, 188, 189, 190, 191, 192, 193, 194, 195, 196, 197, 198] (by decide +kernel) (by decide +kernel)
set_option maxRecDepth 20000 in
theorem gX2_isSame_X1_noise : GoodIn wsX2_isSame (wsV RX2 78 RX1 yX1_noise wsX1_noise) := goodIn_app (goodIn_of _ (by decide +kernel)) ggX2_isSame_X1_noise
set_option maxRecDepth 20000 in
theorem ggX2_isSame_X2_noise : GoodIn wsX2_isSame wsX2_noise := goodIn_r _ [64, 2, 177, 178, 179, 180, 181] (by decide +kernel) (by decide +kernel)
set_option maxRecDepth 20000 in
theorem gX2_isSame_X2_noise : GoodIn wsX2_isSame (wsV RX2 26 RX2 yX2_noise wsX2_noise) := goodIn_app (goodIn_of _ (by decide +kernel)) ggX2_isSame_X2_noise
set_option maxRecDepth 20000 in
theorem ggX2_isSame_X1_nextInLine : GoodIn wsX2_isSame wsX1_nextInLine := goodIn_r _ [68, 11, 69, 70, 71, 25, 72, 27, 28, 182, 183, 184, 185, 186, 187, 188, 189, 190, 191, 192, 193, 194, 195, 196, 197, 198] (by decide +kernel) (by decide +kernel)
set_option maxRecDepth 20000 in
theorem gX2_isSame_X1_nextInLine : GoodIn wsX2_isSame (wsV RX2 79 RX1 yX1_nextInLine wsX1_nextInLine) := goodIn_app (goodIn_of _ (by decide +kernel)) ggX2_isSame_X1_nextInLine
set_option maxRecDepth 20000 in
theorem ggX2_isSame_X2_next : GoodIn wsX2_isSame wsX2_next := goodIn_r _ [76, 2, 177, 178, 179, 180, 181] (by decide +kernel) (by decide +kernel)
set_option maxRecDepth 20000 in
theorem gX2_isSame_X2_next : GoodIn wsX2_isSame (wsV RX2 22 RX2 yX2_next wsX2_next) := goodIn_app (goodIn_of _ (by decide +kernel)) ggX2_isSame_X2_next
set_option maxRecDepth 20000 in
theorem ggX2_isSame_X1_guards : GoodIn wsX2_isSame wsX1_guards := goodIn_r _ [80, 11, 81, 182, 183, 184, 185, 186, 187, 188, 189, 190, 191, 192, 193, 194, 195, 196, 197, 198] (by decide +kernel) (by decide +kernel)
set_option maxRecDepth 20000 in
theorem gX2_isSame_X1_guards : GoodIn wsX2_isSame (wsV RX2 82 RX1 yX1_guards wsX1_guards) := goodIn_app (goodIn_of _ (by decide +kernel)) ggX2_isSame_X1_guards
set_option maxRecDepth 20000 in
theorem ggX2_isSame_X1_stateOf : GoodIn wsX2_isSame wsX1_stateOf := goodIn_ca (goodIn_r _ [85, 11, 86, 87, 88, 89, 9, 90, 91, 92, 93, 94, 95, 25, 96, 27, 182, 183, 184, 185, 186, 187, 188, 189, 190, 191, 192, 193, 194, 195, 196, 197, 198] (by decide +kernel) (by decide +kernel)) (goodIn_sub (fun _ h => List.mem_cons_of_mem _ (List.mem_append_right _ h)) (by decide +kernel))
set_option maxRecDepth 20000 in
theorem gX2_isSame_X1_stateOf : GoodIn wsX2_isSame (wsV RX2 84 RX1 yX1_stateOf wsX1_stateOf) := goodIn_app (goodIn_of _ (by decide +kernel)) ggX2_isSame_X1_stateOf
set_option maxRecDepth 20000 in
theorem ggX2_isSame_X1_hiddenOf : GoodIn wsX2_isSame wsX1_hiddenOf := goodIn_ca (goodIn_r _ [100, 11, 87, 88, 89, 9, 90, 91, 92, 93, 94, 95, 25, 96, 27, 101, 102, 103, 104, 105, 106, 182, 183, 184, 185, 186, 187, 188, 189, 190, 191, 192, 193, 194, 195, 196, 197, 198] (by decide +kernel) (by decide +kernel)) (goodIn_sub (fun _ h => List.mem_cons_of_mem _ (List.mem_append_right _ h)) (by decide +kernel))
set_option maxRecDepth 20000 in
theorem gX2_isSame_X1_hiddenOf : GoodIn wsX2_isSame (wsV RX2 87 RX1 yX1_hiddenOf wsX1_hiddenOf) := goodIn_app (goodIn_of _ (by decide +kernel)) ggX2_isSame_X1_hiddenOf
set_option maxRecDepth 20000 in
theorem ggX2_isSame_X2_hidden : GoodIn wsX2_isSame wsX2_hidden := goodIn_r _ [109] (by decide +kernel) (by decide +kernel)
set_option maxRecDepth 20000 in
theorem gX2_isSame_X2_hidden : GoodIn wsX2_isSame (va_wsS RX2 36 yX2_hidden wsX2_hidden) := goodIn_app (goodIn_of _ (by decide +kernel)) ggX2_isSame_X2_hidden
set_option maxRecDepth 20000 in
theorem ggX2_isSame_X1_lullabyOf : GoodIn wsX2_isSame wsX1_lullabyOf := goodIn_ca (goodIn_r _ [113, 11, 114, 87, 88, 89, 9, 90, 91, 92, 93, 94, 95, 25, 96, 27, 182, 183, 184, 185, 186, 187, 188, 189, 190, 191, 192, 193, 194, 195, 196, 197, 198] (by decide +kernel) (by decide +kernel)) (goodIn_sub (fun _ h => List.mem_cons_of_mem _ (List.mem_append_right _ h)) (by decide +kernel))
set_option maxRecDepth 20000 in
theorem gX2_isSame_X1_lullabyOf : GoodIn wsX2_isSame (wsV RX2 90 RX1 yX1_lullabyOf wsX1_lullabyOf) := goodIn_app (goodIn_of _ (by decide +kernel)) ggX2_isSame_X1_lullabyOf
set_option maxRecDepth 20000 in
theorem ggX2_isSame_X1_placeInLine : GoodIn wsX2_isSame wsX1_placeInLine := goodIn_ca (goodIn_r _ [118, 11, 86, 87, 88, 89, 9, 90, 91, 92, 93, 94, 95, 25, 96, 27, 119, 120, 121, 122, 28, 182, 183, 184, 185, 186, 187, 188, 189, 190, 191, 192, 193, 194, 195, 196, 197, 198] (by decide +kernel) (by decide +kernel)) (goodIn_sub (fun _ h => List.mem_cons_of_mem _ (List.mem_append_right _ h)) (by decide +kernel))
set_option maxRecDepth 20000 in
theorem gX2_isSame_X1_placeInLine : GoodIn wsX2_isSame (wsV RX2 93 RX1 yX1_placeInLine wsX1_placeInLine) := goodIn_app (goodIn_of _ (by decide +kernel)) ggX2_isSame_X1_placeInLine
set_option maxRecDepth 20000 in
theorem ggX2_isSame_X1_searchTime : GoodIn wsX2_isSame wsX1_searchTime := goodIn_ca (goodIn_r _ [126, 11, 87, 88, 89, 9, 90, 91, 92, 93, 94, 95, 25, 96, 27, 127, 128, 129, 130, 106, 131, 57, 58, 59, 28, 60, 182, 183, 184, 185, 186, 187, 188, 189, 190, 191, 192, 193, 194, 195, 196, 197, 198] (by decide +kernel) (by decide +kernel)) (goodIn_sub (fun _ h => List.mem_cons_of_mem _ (List.mem_append_right _ h)) (by decide +kernel))
set_option maxRecDepth 20000 in
theorem gX2_isSame_X1_searchTime : GoodIn wsX2_isSame (wsV RX2 96 RX1 yX1_searchTime wsX1_searchTime) := goodIn_app (goodIn_of _ (by decide +kernel)) ggX2_isSame_X1_searchTime
set_option maxRecDepth 20000 in
theorem ggX2_isSame_X1_alertnessOf : GoodIn wsX2_isSame wsX1_alertnessOf := goodIn_ca (goodIn_r _ [135, 11, 136, 137, 138, 139, 9, 140, 91, 92, 141, 142, 143, 25, 144, 145, 182, 183, 184, 185, 186, 187, 188, 189, 190, 191, 192, 193, 194, 195, 196, 197, 198] (by decide +kernel) (by decide +kernel)) (goodIn_sub (fun _ h => List.mem_cons_of_mem _ (List.mem_append_right _ h)) (by decide +kernel))
set_option maxRecDepth 20000 in
theorem gX2_isSame_X1_alertnessOf : GoodIn wsX2_isSame (wsV RX2 99 RX1 yX1_alertnessOf wsX1_alertnessOf) := goodIn_app (goodIn_of _ (by decide +kernel)) ggX2_isSame_X1_alertnessOf
set_option maxRecDepth 20000 in
theorem ggX2_isSame_X1_searches : GoodIn wsX2_isSame wsX1_searches := goodIn_ca (goodIn_r _ [149, 11, 150, 137, 138, 139, 9, 140, 91, 92, 141, 142, 143, 25, 144, 145, 182, 183, 184, 185, 186, 187, 188, 189, 190, 191, 192, 193, 194, 195, 196, 197, 198] (by decide +kernel) (by decide +kernel)) (goodIn_sub (fun _ h => List.mem_cons_of_mem _ (List.mem_append_right _ h)) (by decide +kernel))
set_option maxRecDepth 20000 in
theorem gX2_isSame_X1_searches : GoodIn wsX2_isSame (wsV RX2 102 RX1 yX1_searches wsX1_searches) := goodIn_app (goodIn_of _ (by decide +kernel)) ggX2_isSame_X1_searches
set_option maxRecDepth 20000 in
theorem ggX2_isSame_X1_minutesToGo : GoodIn wsX2_isSame wsX1_minutesToGo := goodIn_ca (goodIn_r _ [154, 11, 155, 137, 138, 139, 9, 140, 91, 92, 141, 142, 143, 25, 144, 145, 182, 183, 184, 185, 186, 187, 188, 189, 190, 191, 192, 193, 194, 195, 196, 197, 198] (by decide +kernel) (by decide +kernel)) (goodIn_sub (fun _ h => List.mem_cons_of_mem _ (List.mem_append_right _ h)) (by decide +kernel))
set_option maxRecDepth 20000 in
theorem gX2_isSame_X1_minutesToGo : GoodIn wsX2_isSame (wsV RX2 105 RX1 yX1_minutesToGo wsX1_minutesToGo) := goodIn_app (goodIn_of _ (by decide +kernel)) ggX2_isSame_X1_minutesToGo
set_option maxRecDepth 20000 in
theorem ggX2_isSame_X1_wouldFind : GoodIn wsX2_isSame wsX1_wouldFind := goodIn_ca (goodIn_r _ [159, 11, 137, 138, 139, 9, 140, 91, 92, 141, 142, 143, 25, 144, 145, 87, 88, 89, 90, 93, 94, 95, 96, 27, 160, 161, 162, 163, 164, 165, 102, 103, 104, 105, 106, 182, 183, 184, 185, 186, 187, 188, 189, 190, 191, 192, 193, 194, 195, 196, 197, 198] (by decide +kernel) (by decide +kernel)) (goodIn_sub (fun _ h => List.mem_cons_of_mem _ (List.mem_append_right _ h)) (by decide +kernel))
set_option maxRecDepth 20000 in
theorem gX2_isSame_X1_wouldFind : GoodIn wsX2_isSame (wsV RX2 108 RX1 yX1_wouldFind wsX1_wouldFind) := goodIn_app (goodIn_of _ (by decide +kernel)) ggX2_isSame_X1_wouldFind
set_option maxRecDepth 20000 in
theorem ggX2_isSame_X2_finds : GoodIn wsX2_isSame wsX2_finds := goodIn_r _ [168] (by decide +kernel) (by decide +kernel)
set_option maxRecDepth 20000 in
theorem gX2_isSame_X2_finds : GoodIn wsX2_isSame (va_wsS RX2 29 yX2_finds wsX2_finds) := goodIn_app (goodIn_of _ (by decide +kernel)) ggX2_isSame_X2_finds
set_option maxRecDepth 20000 in
theorem ggX2_isSame_X1_mostAlert : GoodIn wsX2_isSame wsX1_mostAlert := goodIn_r _ [172, 11, 81, 136, 182, 183, 184, 185, 186, 187, 188, 189, 190, 191, 192, 193, 194, 195, 196, 197, 198] (by decide +kernel) (by decide +kernel)
set_option maxRecDepth 20000 in
theorem gX2_isSame_X1_mostAlert : GoodIn wsX2_isSame (wsV RX2 112 RX1 yX1_mostAlert wsX1_mostAlert) := goodIn_app (goodIn_of _ (by decide +kernel)) ggX2_isSame_X1_mostAlert
set_option maxRecDepth 20000 in
theorem ggX2_isSame_X1_meanAlertness : GoodIn wsX2_isSame wsX1_meanAlertness := goodIn_r _ [176, 11, 81, 136, 182, 183, 184, 185, 186, 187, 188, 189, 190, 191, 192, 193, 194, 195, 196, 197, 198] (by decide +kernel) (by decide +kernel)
set_option maxRecDepth 20000 in
theorem gX2_isSame_X1_meanAlertness : GoodIn wsX2_isSame (wsV RX2 115 RX1 yX1_meanAlertness wsX1_meanAlertness) := goodIn_app (goodIn_of _ (by decide +kernel)) ggX2_isSame_X1_meanAlertness
theorem dX2_isSame_0 : decode cX2_isSame 0 = .ok (.aload_n 1, 1) := by decide +kernel
theorem dX2_isSame_1 : decode cX2_isSame 1 = .ok (.invokevirtual 59, 3) := by decide +kernel
theorem dX2_isSame_4 : decode cX2_isSame 4 = .ok (.aload_n 0, 1) := by decide +kernel
theorem dX2_isSame_5 : decode cX2_isSame 5 = .ok (.getfield 40, 3) := by decide +kernel
theorem dX2_isSame_8 : decode cX2_isSame 8 = .ok (.if_icmp .ne 107, 3) := by decide +kernel
theorem dX2_isSame_11 : decode cX2_isSame 11 = .ok (.aload_n 1, 1) := by decide +kernel
theorem dX2_isSame_12 : decode cX2_isSame 12 = .ok (.invokevirtual 63, 3) := by decide +kernel
theorem dX2_isSame_15 : decode cX2_isSame 15 = .ok (.aload_n 0, 1) := by decide +kernel
theorem dX2_isSame_16 : decode cX2_isSame 16 = .ok (.getfield 15, 3) := by decide +kernel
theorem dX2_isSame_19 : decode cX2_isSame 19 = .ok (.arraylength, 1) := by decide +kernel
theorem dX2_isSame_20 : decode cX2_isSame 20 = .ok (.if_icmp .ne 95, 3) := by decide +kernel
theorem dX2_isSame_23 : decode cX2_isSame 23 = .ok (.aload_n 1, 1) := by decide +kernel
theorem dX2_isSame_24 : decode cX2_isSame 24 = .ok (.invokevirtual 65, 3) := by decide +kernel
theorem dX2_isSame_27 : decode cX2_isSame 27 = .ok (.aload_n 0, 1) := by decide +kernel
theorem dX2_isSame_28 : decode cX2_isSame 28 = .ok (.iconst 0, 1) := by decide +kernel
theorem dX2_isSame_29 : decode cX2_isSame 29 = .ok (.invokevirtual 43, 3) := by decide +kernel
theorem dX2_isSame_32 : decode cX2_isSame 32 = .ok (.if_icmp .ne 83, 3) := by decide +kernel
theorem dX2_isSame_35 : decode cX2_isSame 35 = .ok (.aload_n 1, 1) := by decide +kernel
theorem dX2_isSame_36 : decode cX2_isSame 36 = .ok (.invokevirtual 68, 3) := by decide +kernel
theorem dX2_isSame_39 : decode cX2_isSame 39 = .ok (.aload_n 0, 1) := by decide +kernel
theorem dX2_isSame_40 : decode cX2_isSame 40 = .ok (.iconst 3, 1) := by decide +kernel
theorem dX2_isSame_41 : decode cX2_isSame 41 = .ok (.invokevirtual 43, 3) := by decide +kernel
theorem dX2_isSame_44 : decode cX2_isSame 44 = .ok (.if_icmp .ne 71, 3) := by decide +kernel
theorem dX2_isSame_47 : decode cX2_isSame 47 = .ok (.aload_n 1, 1) := by decide +kernel
theorem dX2_isSame_48 : decode cX2_isSame 48 = .ok (.invokevirtual 71, 3) := by decide +kernel
theorem dX2_isSame_51 : decode cX2_isSame 51 = .ok (.aload_n 0, 1) := by decide +kernel
theorem dX2_isSame_52 : decode cX2_isSame 52 = .ok (.iconst 4, 1) := by decide +kernel
theorem dX2_isSame_53 : decode cX2_isSame 53 = .ok (.invokevirtual 43, 3) := by decide +kernel
theorem dX2_isSame_56 : decode cX2_isSame 56 = .ok (.if_icmp .ne 59, 3) := by decide +kernel
theorem dX2_isSame_59 : decode cX2_isSame 59 = .ok (.aload_n 1, 1) := by decide +kernel
theorem dX2_isSame_60 : decode cX2_isSame 60 = .ok (.invokevirtual 74, 3) := by decide +kernel
theorem dX2_isSame_63 : decode cX2_isSame 63 = .ok (.aload_n 0, 1) := by decide +kernel
theorem dX2_isSame_64 : decode cX2_isSame 64 = .ok (.getfield 18, 3) := by decide +kernel
theorem dX2_isSame_67 : decode cX2_isSame 67 = .ok (.if_icmp .ne 48, 3) := by decide +kernel
theorem dX2_isSame_70 : decode cX2_isSame 70 = .ok (.aload_n 1, 1) := by decide +kernel
theorem dX2_isSame_71 : decode cX2_isSame 71 = .ok (.invokevirtual 76, 3) := by decide +kernel
theorem dX2_isSame_74 : decode cX2_isSame 74 = .ok (.aload_n 0, 1) := by decide +kernel
theorem dX2_isSame_75 : decode cX2_isSame 75 = .ok (.getfield 33, 3) := by decide +kernel
theorem dX2_isSame_78 : decode cX2_isSame 78 = .ok (.if_icmp .ne 37, 3) := by decide +kernel
theorem dX2_isSame_81 : decode cX2_isSame 81 = .ok (.aload_n 1, 1) := by decide +kernel
theorem dX2_isSame_82 : decode cX2_isSame 82 = .ok (.invokevirtual 78, 3) := by decide +kernel
theorem dX2_isSame_85 : decode cX2_isSame 85 = .ok (.aload_n 0, 1) := by decide +kernel
theorem dX2_isSame_86 : decode cX2_isSame 86 = .ok (.invokevirtual 26, 3) := by decide +kernel
theorem dX2_isSame_89 : decode cX2_isSame 89 = .ok (.if_icmp .ne 26, 3) := by decide +kernel
theorem dX2_isSame_92 : decode cX2_isSame 92 = .ok (.aload_n 1, 1) := by decide +kernel
theorem dX2_isSame_93 : decode cX2_isSame 93 = .ok (.invokevirtual 79, 3) := by decide +kernel
theorem dX2_isSame_96 : decode cX2_isSame 96 = .ok (.aload_n 0, 1) := by decide +kernel
theorem dX2_isSame_97 : decode cX2_isSame 97 = .ok (.invokevirtual 22, 3) := by decide +kernel
theorem dX2_isSame_100 : decode cX2_isSame 100 = .ok (.if_icmp .ne 15, 3) := by decide +kernel
theorem dX2_isSame_103 : decode cX2_isSame 103 = .ok (.aload_n 1, 1) := by decide +kernel
theorem dX2_isSame_104 : decode cX2_isSame 104 = .ok (.invokevirtual 82, 3) := by decide +kernel
theorem dX2_isSame_107 : decode cX2_isSame 107 = .ok (.aload_n 0, 1) := by decide +kernel
theorem dX2_isSame_108 : decode cX2_isSame 108 = .ok (.getfield 9, 3) := by decide +kernel
theorem dX2_isSame_111 : decode cX2_isSame 111 = .ok (.arraylength, 1) := by decide +kernel
theorem dX2_isSame_112 : decode cX2_isSame 112 = .ok (.if_icmp .eq 5, 3) := by decide +kernel
theorem dX2_isSame_115 : decode cX2_isSame 115 = .ok (.iconst 0, 1) := by decide +kernel
theorem dX2_isSame_116 : decode cX2_isSame 116 = .ok (.ireturn, 1) := by decide +kernel
theorem dX2_isSame_117 : decode cX2_isSame 117 = .ok (.iconst 0, 1) := by decide +kernel
theorem dX2_isSame_118 : decode cX2_isSame 118 = .ok (.istore_n 2, 1) := by decide +kernel
theorem dX2_isSame_119 : decode cX2_isSame 119 = .ok (.iconst 0, 1) := by decide +kernel
theorem dX2_isSame_120 : decode cX2_isSame 120 = .ok (.istore_n 3, 1) := by decide +kernel
theorem dX2_isSame_121 : decode cX2_isSame 121 = .ok (.iload_n 3, 1) := by decide +kernel
theorem dX2_isSame_122 : decode cX2_isSame 122 = .ok (.aload_n 0, 1) := by decide +kernel
theorem dX2_isSame_123 : decode cX2_isSame 123 = .ok (.getfield 15, 3) := by decide +kernel
theorem dX2_isSame_126 : decode cX2_isSame 126 = .ok (.arraylength, 1) := by decide +kernel
theorem dX2_isSame_127 : decode cX2_isSame 127 = .ok (.if_icmp .ge 112, 3) := by decide +kernel
theorem dX2_isSame_130 : decode cX2_isSame 130 = .ok (.aload_n 0, 1) := by decide +kernel
theorem dX2_isSame_131 : decode cX2_isSame 131 = .ok (.getfield 15, 3) := by decide +kernel
theorem dX2_isSame_134 : decode cX2_isSame 134 = .ok (.iload_n 3, 1) := by decide +kernel
theorem dX2_isSame_135 : decode cX2_isSame 135 = .ok (.aaload, 1) := by decide +kernel
theorem dX2_isSame_136 : decode cX2_isSame 136 = .ok (.astore 4, 2) := by decide +kernel
theorem dX2_isSame_138 : decode cX2_isSame 138 = .ok (.aload_n 1, 1) := by decide +kernel
theorem dX2_isSame_139 : decode cX2_isSame 139 = .ok (.iload_n 3, 1) := by decide +kernel
theorem dX2_isSame_140 : decode cX2_isSame 140 = .ok (.invokevirtual 84, 3) := by decide +kernel
theorem dX2_isSame_143 : decode cX2_isSame 143 = .ok (.aload 4, 2) := by decide +kernel
theorem dX2_isSame_145 : decode cX2_isSame 145 = .ok (.iconst 4, 1) := by decide +kernel
theorem dX2_isSame_146 : decode cX2_isSame 146 = .ok (.iaload, 1) := by decide +kernel
theorem dX2_isSame_147 : decode cX2_isSame 147 = .ok (.if_icmp .ne 69, 3) := by decide +kernel
theorem dX2_isSame_150 : decode cX2_isSame 150 = .ok (.aload_n 1, 1) := by decide +kernel
theorem dX2_isSame_151 : decode cX2_isSame 151 = .ok (.iload_n 3, 1) := by decide +kernel
theorem dX2_isSame_152 : decode cX2_isSame 152 = .ok (.invokevirtual 87, 3) := by decide +kernel
theorem dX2_isSame_155 : decode cX2_isSame 155 = .ok (.aload 4, 2) := by decide +kernel
theorem dX2_isSame_157 : decode cX2_isSame 157 = .ok (.invokestatic 36, 3) := by decide +kernel
theorem dX2_isSame_160 : decode cX2_isSame 160 = .ok (.if_icmp .ne 56, 3) := by decide +kernel
theorem dX2_isSame_163 : decode cX2_isSame 163 = .ok (.aload_n 1, 1) := by decide +kernel
theorem dX2_isSame_164 : decode cX2_isSame 164 = .ok (.iload_n 3, 1) := by decide +kernel
theorem dX2_isSame_165 : decode cX2_isSame 165 = .ok (.invokevirtual 90, 3) := by decide +kernel
theorem dX2_isSame_168 : decode cX2_isSame 168 = .ok (.aload 4, 2) := by decide +kernel
theorem dX2_isSame_170 : decode cX2_isSame 170 = .ok (.iconst 3, 1) := by decide +kernel
theorem dX2_isSame_171 : decode cX2_isSame 171 = .ok (.iaload, 1) := by decide +kernel
theorem dX2_isSame_172 : decode cX2_isSame 172 = .ok (.if_icmp .ne 44, 3) := by decide +kernel
theorem dX2_isSame_175 : decode cX2_isSame 175 = .ok (.aload_n 1, 1) := by decide +kernel
theorem dX2_isSame_176 : decode cX2_isSame 176 = .ok (.iload_n 3, 1) := by decide +kernel
theorem dX2_isSame_177 : decode cX2_isSame 177 = .ok (.invokevirtual 93, 3) := by decide +kernel
theorem dX2_isSame_180 : decode cX2_isSame 180 = .ok (.aload 4, 2) := by decide +kernel
theorem dX2_isSame_182 : decode cX2_isSame 182 = .ok (.iconst 4, 1) := by decide +kernel
theorem dX2_isSame_183 : decode cX2_isSame 183 = .ok (.iaload, 1) := by decide +kernel
theorem dX2_isSame_184 : decode cX2_isSame 184 = .ok (.ifCond .ne 7, 3) := by decide +kernel
theorem dX2_isSame_187 : decode cX2_isSame 187 = .ok (.iload_n 2, 1) := by decide +kernel
theorem dX2_isSame_188 : decode cX2_isSame 188 = .ok (.goto 4, 3) := by decide +kernel
theorem dX2_isSame_191 : decode cX2_isSame 191 = .ok (.iconst (-1), 1) := by decide +kernel
theorem dX2_isSame_192 : decode cX2_isSame 192 = .ok (.if_icmp .ne 24, 3) := by decide +kernel
theorem dX2_isSame_195 : decode cX2_isSame 195 = .ok (.aload_n 1, 1) := by decide +kernel
theorem dX2_isSame_196 : decode cX2_isSame 196 = .ok (.iload_n 3, 1) := by decide +kernel
theorem dX2_isSame_197 : decode cX2_isSame 197 = .ok (.invokevirtual 96, 3) := by decide +kernel
theorem dX2_isSame_200 : decode cX2_isSame 200 = .ok (.iconst 2, 1) := by decide +kernel
theorem dX2_isSame_201 : decode cX2_isSame 201 = .ok (.aload 4, 2) := by decide +kernel
theorem dX2_isSame_203 : decode cX2_isSame 203 = .ok (.iconst 1, 1) := by decide +kernel
theorem dX2_isSame_204 : decode cX2_isSame 204 = .ok (.iaload, 1) := by decide +kernel
theorem dX2_isSame_205 : decode cX2_isSame 205 = .ok (.iadd, 1) := by decide +kernel
theorem dX2_isSame_206 : decode cX2_isSame 206 = .ok (.aload_n 0, 1) := by decide +kernel
theorem dX2_isSame_207 : decode cX2_isSame 207 = .ok (.invokevirtual 26, 3) := by decide +kernel
theorem dX2_isSame_210 : decode cX2_isSame 210 = .ok (.iconst 4, 1) := by decide +kernel
theorem dX2_isSame_211 : decode cX2_isSame 211 = .ok (.idiv, 1) := by decide +kernel
theorem dX2_isSame_212 : decode cX2_isSame 212 = .ok (.iadd, 1) := by decide +kernel
theorem dX2_isSame_213 : decode cX2_isSame 213 = .ok (.if_icmp .eq 5, 3) := by decide +kernel
theorem dX2_isSame_216 : decode cX2_isSame 216 = .ok (.iconst 0, 1) := by decide +kernel
theorem dX2_isSame_217 : decode cX2_isSame 217 = .ok (.ireturn, 1) := by decide +kernel
theorem dX2_isSame_218 : decode cX2_isSame 218 = .ok (.iload_n 2, 1) := by decide +kernel
theorem dX2_isSame_219 : decode cX2_isSame 219 = .ok (.aload 4, 2) := by decide +kernel
theorem dX2_isSame_221 : decode cX2_isSame 221 = .ok (.iconst 4, 1) := by decide +kernel
theorem dX2_isSame_222 : decode cX2_isSame 222 = .ok (.iaload, 1) := by decide +kernel
theorem dX2_isSame_223 : decode cX2_isSame 223 = .ok (.ifCond .ne 7, 3) := by decide +kernel
theorem dX2_isSame_226 : decode cX2_isSame 226 = .ok (.iconst 1, 1) := by decide +kernel
theorem dX2_isSame_227 : decode cX2_isSame 227 = .ok (.goto 4, 3) := by decide +kernel
theorem dX2_isSame_230 : decode cX2_isSame 230 = .ok (.iconst 0, 1) := by decide +kernel
theorem dX2_isSame_231 : decode cX2_isSame 231 = .ok (.iadd, 1) := by decide +kernel
theorem dX2_isSame_232 : decode cX2_isSame 232 = .ok (.istore_n 2, 1) := by decide +kernel
theorem dX2_isSame_233 : decode cX2_isSame 233 = .ok (.iinc 3 1, 3) := by decide +kernel
theorem dX2_isSame_236 : decode cX2_isSame 236 = .ok (.goto (-115), 3) := by decide +kernel
theorem dX2_isSame_239 : decode cX2_isSame 239 = .ok (.iconst (-1), 1) := by decide +kernel
theorem dX2_isSame_240 : decode cX2_isSame 240 = .ok (.istore_n 3, 1) := by decide +kernel
theorem dX2_isSame_241 : decode cX2_isSame 241 = .ok (.iconst 0, 1) := by decide +kernel
theorem dX2_isSame_242 : decode cX2_isSame 242 = .ok (.istore 4, 2) := by decide +kernel
theorem dX2_isSame_244 : decode cX2_isSame 244 = .ok (.iconst 0, 1) := by decide +kernel
theorem dX2_isSame_245 : decode cX2_isSame 245 = .ok (.istore 5, 2) := by decide +kernel
theorem dX2_isSame_247 : decode cX2_isSame 247 = .ok (.iload 5, 2) := by decide +kernel
theorem dX2_isSame_249 : decode cX2_isSame 249 = .ok (.aload_n 0, 1) := by decide +kernel
theorem dX2_isSame_250 : decode cX2_isSame 250 = .ok (.getfield 9, 3) := by decide +kernel
theorem dX2_isSame_253 : decode cX2_isSame 253 = .ok (.arraylength, 1) := by decide +kernel
theorem dX2_isSame_254 : decode cX2_isSame 254 = .ok (.if_icmp .ge 134, 3) := by decide +kernel
theorem dX2_isSame_257 : decode cX2_isSame 257 = .ok (.aload_n 0, 1) := by decide +kernel
theorem dX2_isSame_258 : decode cX2_isSame 258 = .ok (.getfield 9, 3) := by decide +kernel
theorem dX2_isSame_261 : decode cX2_isSame 261 = .ok (.iload 5, 2) := by decide +kernel
theorem dX2_isSame_263 : decode cX2_isSame 263 = .ok (.aaload, 1) := by decide +kernel
theorem dX2_isSame_264 : decode cX2_isSame 264 = .ok (.astore 6, 2) := by decide +kernel
theorem dX2_isSame_266 : decode cX2_isSame 266 = .ok (.iload_n 3, 1) := by decide +kernel
theorem dX2_isSame_267 : decode cX2_isSame 267 = .ok (.ifCond .lt 18, 3) := by decide +kernel
theorem dX2_isSame_270 : decode cX2_isSame 270 = .ok (.aload 6, 2) := by decide +kernel
theorem dX2_isSame_272 : decode cX2_isSame 272 = .ok (.iconst 0, 1) := by decide +kernel
theorem dX2_isSame_273 : decode cX2_isSame 273 = .ok (.iaload, 1) := by decide +kernel
theorem dX2_isSame_274 : decode cX2_isSame 274 = .ok (.aload_n 0, 1) := by decide +kernel
theorem dX2_isSame_275 : decode cX2_isSame 275 = .ok (.getfield 9, 3) := by decide +kernel
theorem dX2_isSame_278 : decode cX2_isSame 278 = .ok (.iload_n 3, 1) := by decide +kernel
theorem dX2_isSame_279 : decode cX2_isSame 279 = .ok (.aaload, 1) := by decide +kernel
theorem dX2_isSame_280 : decode cX2_isSame 280 = .ok (.iconst 0, 1) := by decide +kernel
theorem dX2_isSame_281 : decode cX2_isSame 281 = .ok (.iaload, 1) := by decide +kernel
theorem dX2_isSame_282 : decode cX2_isSame 282 = .ok (.if_icmp .le 6, 3) := by decide +kernel
theorem dX2_isSame_285 : decode cX2_isSame 285 = .ok (.iload 5, 2) := by decide +kernel
theorem dX2_isSame_287 : decode cX2_isSame 287 = .ok (.istore_n 3, 1) := by decide +kernel
theorem dX2_isSame_288 : decode cX2_isSame 288 = .ok (.iload 4, 2) := by decide +kernel
theorem dX2_isSame_290 : decode cX2_isSame 290 = .ok (.aload 6, 2) := by decide +kernel
theorem dX2_isSame_292 : decode cX2_isSame 292 = .ok (.iconst 0, 1) := by decide +kernel
theorem dX2_isSame_293 : decode cX2_isSame 293 = .ok (.iaload, 1) := by decide +kernel
theorem dX2_isSame_294 : decode cX2_isSame 294 = .ok (.iadd, 1) := by decide +kernel
theorem dX2_isSame_295 : decode cX2_isSame 295 = .ok (.istore 4, 2) := by decide +kernel
theorem dX2_isSame_297 : decode cX2_isSame 297 = .ok (.aload_n 1, 1) := by decide +kernel
theorem dX2_isSame_298 : decode cX2_isSame 298 = .ok (.iload 5, 2) := by decide +kernel
theorem dX2_isSame_300 : decode cX2_isSame 300 = .ok (.invokevirtual 99, 3) := by decide +kernel
theorem dX2_isSame_303 : decode cX2_isSame 303 = .ok (.aload 6, 2) := by decide +kernel
theorem dX2_isSame_305 : decode cX2_isSame 305 = .ok (.iconst 0, 1) := by decide +kernel
theorem dX2_isSame_306 : decode cX2_isSame 306 = .ok (.iaload, 1) := by decide +kernel
theorem dX2_isSame_307 : decode cX2_isSame 307 = .ok (.if_icmp .ne 29, 3) := by decide +kernel
theorem dX2_isSame_310 : decode cX2_isSame 310 = .ok (.aload_n 1, 1) := by decide +kernel
theorem dX2_isSame_311 : decode cX2_isSame 311 = .ok (.iload 5, 2) := by decide +kernel
theorem dX2_isSame_313 : decode cX2_isSame 313 = .ok (.invokevirtual 102, 3) := by decide +kernel
theorem dX2_isSame_316 : decode cX2_isSame 316 = .ok (.aload 6, 2) := by decide +kernel
theorem dX2_isSame_318 : decode cX2_isSame 318 = .ok (.iconst 1, 1) := by decide +kernel
theorem dX2_isSame_319 : decode cX2_isSame 319 = .ok (.iaload, 1) := by decide +kernel
theorem dX2_isSame_320 : decode cX2_isSame 320 = .ok (.if_icmp .ne 16, 3) := by decide +kernel
theorem dX2_isSame_323 : decode cX2_isSame 323 = .ok (.aload_n 1, 1) := by decide +kernel
theorem dX2_isSame_324 : decode cX2_isSame 324 = .ok (.iload 5, 2) := by decide +kernel
theorem dX2_isSame_326 : decode cX2_isSame 326 = .ok (.invokevirtual 105, 3) := by decide +kernel
theorem dX2_isSame_329 : decode cX2_isSame 329 = .ok (.aload 6, 2) := by decide +kernel
theorem dX2_isSame_331 : decode cX2_isSame 331 = .ok (.iconst 2, 1) := by decide +kernel
theorem dX2_isSame_332 : decode cX2_isSame 332 = .ok (.iaload, 1) := by decide +kernel
theorem dX2_isSame_333 : decode cX2_isSame 333 = .ok (.if_icmp .eq 5, 3) := by decide +kernel
theorem dX2_isSame_336 : decode cX2_isSame 336 = .ok (.iconst 0, 1) := by decide +kernel
theorem dX2_isSame_337 : decode cX2_isSame 337 = .ok (.ireturn, 1) := by decide +kernel
theorem dX2_isSame_338 : decode cX2_isSame 338 = .ok (.iconst 0, 1) := by decide +kernel
theorem dX2_isSame_339 : decode cX2_isSame 339 = .ok (.istore 7, 2) := by decide +kernel
theorem dX2_isSame_341 : decode cX2_isSame 341 = .ok (.iload 7, 2) := by decide +kernel
theorem dX2_isSame_343 : decode cX2_isSame 343 = .ok (.aload_n 0, 1) := by decide +kernel
theorem dX2_isSame_344 : decode cX2_isSame 344 = .ok (.getfield 15, 3) := by decide +kernel
theorem dX2_isSame_347 : decode cX2_isSame 347 = .ok (.arraylength, 1) := by decide +kernel
theorem dX2_isSame_348 : decode cX2_isSame 348 = .ok (.if_icmp .ge 34, 3) := by decide +kernel
theorem dX2_isSame_351 : decode cX2_isSame 351 = .ok (.aload_n 1, 1) := by decide +kernel
theorem dX2_isSame_352 : decode cX2_isSame 352 = .ok (.iload 5, 2) := by decide +kernel
theorem dX2_isSame_354 : decode cX2_isSame 354 = .ok (.iload 7, 2) := by decide +kernel
theorem dX2_isSame_356 : decode cX2_isSame 356 = .ok (.invokevirtual 108, 3) := by decide +kernel
theorem dX2_isSame_359 : decode cX2_isSame 359 = .ok (.aload 6, 2) := by decide +kernel
theorem dX2_isSame_361 : decode cX2_isSame 361 = .ok (.aload_n 0, 1) := by decide +kernel
theorem dX2_isSame_362 : decode cX2_isSame 362 = .ok (.getfield 15, 3) := by decide +kernel
theorem dX2_isSame_365 : decode cX2_isSame 365 = .ok (.iload 7, 2) := by decide +kernel
theorem dX2_isSame_367 : decode cX2_isSame 367 = .ok (.aaload, 1) := by decide +kernel
theorem dX2_isSame_368 : decode cX2_isSame 368 = .ok (.invokestatic 29, 3) := by decide +kernel
theorem dX2_isSame_371 : decode cX2_isSame 371 = .ok (.if_icmp .eq 5, 3) := by decide +kernel
theorem dX2_isSame_374 : decode cX2_isSame 374 = .ok (.iconst 0, 1) := by decide +kernel
theorem dX2_isSame_375 : decode cX2_isSame 375 = .ok (.ireturn, 1) := by decide +kernel
theorem dX2_isSame_376 : decode cX2_isSame 376 = .ok (.iinc 7 1, 3) := by decide +kernel
theorem dX2_isSame_379 : decode cX2_isSame 379 = .ok (.goto (-38), 3) := by decide +kernel
theorem dX2_isSame_382 : decode cX2_isSame 382 = .ok (.iinc 5 1, 3) := by decide +kernel
theorem dX2_isSame_385 : decode cX2_isSame 385 = .ok (.goto (-138), 3) := by decide +kernel
theorem dX2_isSame_388 : decode cX2_isSame 388 = .ok (.aload_n 1, 1) := by decide +kernel
theorem dX2_isSame_389 : decode cX2_isSame 389 = .ok (.invokevirtual 112, 3) := by decide +kernel
theorem dX2_isSame_392 : decode cX2_isSame 392 = .ok (.iload_n 3, 1) := by decide +kernel
theorem dX2_isSame_393 : decode cX2_isSame 393 = .ok (.if_icmp .ne 37, 3) := by decide +kernel
theorem dX2_isSame_396 : decode cX2_isSame 396 = .ok (.aload_n 1, 1) := by decide +kernel
theorem dX2_isSame_397 : decode cX2_isSame 397 = .ok (.invokevirtual 115, 3) := by decide +kernel
theorem dX2_isSame_400 : decode cX2_isSame 400 = .ok (.aload_n 0, 1) := by decide +kernel
theorem dX2_isSame_401 : decode cX2_isSame 401 = .ok (.getfield 9, 3) := by decide +kernel
theorem dX2_isSame_404 : decode cX2_isSame 404 = .ok (.arraylength, 1) := by decide +kernel
theorem dX2_isSame_405 : decode cX2_isSame 405 = .ok (.ifCond .ne 7, 3) := by decide +kernel
theorem dX2_isSame_408 : decode cX2_isSame 408 = .ok (.dconst 0, 1) := by decide +kernel
theorem dX2_isSame_409 : decode cX2_isSame 409 = .ok (.goto 13, 3) := by decide +kernel
theorem dX2_isSame_412 : decode cX2_isSame 412 = .ok (.iload 4, 2) := by decide +kernel
theorem dX2_isSame_414 : decode cX2_isSame 414 = .ok (.i2d, 1) := by decide +kernel
theorem dX2_isSame_415 : decode cX2_isSame 415 = .ok (.aload_n 0, 1) := by decide +kernel
theorem dX2_isSame_416 : decode cX2_isSame 416 = .ok (.getfield 9, 3) := by decide +kernel
theorem dX2_isSame_419 : decode cX2_isSame 419 = .ok (.arraylength, 1) := by decide +kernel
theorem dX2_isSame_420 : decode cX2_isSame 420 = .ok (.i2d, 1) := by decide +kernel
theorem dX2_isSame_421 : decode cX2_isSame 421 = .ok (.ddiv, 1) := by decide +kernel
theorem dX2_isSame_422 : decode cX2_isSame 422 = .ok (.dcmp .l, 1) := by decide +kernel
theorem dX2_isSame_423 : decode cX2_isSame 423 = .ok (.ifCond .ne 7, 3) := by decide +kernel
theorem dX2_isSame_426 : decode cX2_isSame 426 = .ok (.iconst 1, 1) := by decide +kernel
theorem dX2_isSame_427 : decode cX2_isSame 427 = .ok (.goto 4, 3) := by decide +kernel
theorem dX2_isSame_430 : decode cX2_isSame 430 = .ok (.iconst 0, 1) := by decide +kernel
theorem dX2_isSame_431 : decode cX2_isSame 431 = .ok (.ireturn, 1) := by decide +kernel
theorem dJ9_max_7cf53_0 : decode cJ9_max_7cf53 0 = .ok (.iload_n 0, 1) := by decide +kernel
theorem dJ9_max_7cf53_1 : decode cJ9_max_7cf53 1 = .ok (.iload_n 1, 1) := by decide +kernel
theorem dJ9_max_7cf53_2 : decode cJ9_max_7cf53 2 = .ok (.if_icmp .lt 7, 3) := by decide +kernel
theorem dJ9_max_7cf53_5 : decode cJ9_max_7cf53 5 = .ok (.iload_n 0, 1) := by decide +kernel
theorem dJ9_max_7cf53_6 : decode cJ9_max_7cf53 6 = .ok (.goto 4, 3) := by decide +kernel
theorem dJ9_max_7cf53_9 : decode cJ9_max_7cf53 9 = .ok (.iload_n 1, 1) := by decide +kernel
theorem dJ9_max_7cf53_10 : decode cJ9_max_7cf53 10 = .ok (.ireturn, 1) := by decide +kernel
theorem dJ9_min_7cf53_0 : decode cJ9_min_7cf53 0 = .ok (.iload_n 0, 1) := by decide +kernel
theorem dJ9_min_7cf53_1 : decode cJ9_min_7cf53 1 = .ok (.iload_n 1, 1) := by decide +kernel
theorem dJ9_min_7cf53_2 : decode cJ9_min_7cf53 2 = .ok (.if_icmp .gt 7, 3) := by decide +kernel
theorem dJ9_min_7cf53_5 : decode cJ9_min_7cf53 5 = .ok (.iload_n 0, 1) := by decide +kernel
theorem dJ9_min_7cf53_6 : decode cJ9_min_7cf53 6 = .ok (.goto 4, 3) := by decide +kernel
theorem dJ9_min_7cf53_9 : decode cJ9_min_7cf53 9 = .ok (.iload_n 1, 1) := by decide +kernel
theorem dJ9_min_7cf53_10 : decode cJ9_min_7cf53 10 = .ok (.ireturn, 1) := by decide +kernel
