theorem dX2_init_0 : decode cX2_init 0 = .ok (.aload_n 0, 1) := by decide +kernel
theorem dX2_init_1 : decode cX2_init 1 = .ok (.invokespecial 1, 3) := by decide +kernel
theorem dX2_init_4 : decode cX2_init 4 = .ok (.aload_n 0, 1) := by decide +kernel
theorem dX2_init_5 : decode cX2_init 5 = .ok (.bipush 24, 2) := by decide +kernel
theorem dX2_init_7 : decode cX2_init 7 = .ok (.newarray .int, 2) := by decide +kernel
theorem dX2_init_9 : decode cX2_init 9 = .ok (.putfield 9, 3) := by decide +kernel
theorem dX2_init_12 : decode cX2_init 12 = .ok (.aload_n 0, 1) := by decide +kernel
theorem dX2_init_13 : decode cX2_init 13 = .ok (.bipush 24, 2) := by decide +kernel
theorem dX2_init_15 : decode cX2_init 15 = .ok (.newarray .int, 2) := by decide +kernel
theorem dX2_init_17 : decode cX2_init 17 = .ok (.putfield 13, 3) := by decide +kernel
theorem dX2_init_20 : decode cX2_init 20 = .ok (.aload_n 0, 1) := by decide +kernel
theorem dX2_init_21 : decode cX2_init 21 = .ok (.bipush 124, 2) := by decide +kernel
theorem dX2_init_23 : decode cX2_init 23 = .ok (.newarray .int, 2) := by decide +kernel
theorem dX2_init_25 : decode cX2_init 25 = .ok (.putfield 16, 3) := by decide +kernel
theorem dX2_init_28 : decode cX2_init 28 = .ok (.aload_n 0, 1) := by decide +kernel
theorem dX2_init_29 : decode cX2_init 29 = .ok (.bipush 124, 2) := by decide +kernel
theorem dX2_init_31 : decode cX2_init 31 = .ok (.newarray .int, 2) := by decide +kernel
theorem dX2_init_33 : decode cX2_init 33 = .ok (.putfield 19, 3) := by decide +kernel
theorem dX2_init_36 : decode cX2_init 36 = .ok (.aload_n 0, 1) := by decide +kernel
theorem dX2_init_37 : decode cX2_init 37 = .ok (.bipush 8, 2) := by decide +kernel
theorem dX2_init_39 : decode cX2_init 39 = .ok (.newarray .boolean, 2) := by decide +kernel
theorem dX2_init_41 : decode cX2_init 41 = .ok (.putfield 22, 3) := by decide +kernel
theorem dX2_init_44 : decode cX2_init 44 = .ok (.return_, 1) := by decide +kernel
theorem dX2_thrown_0 : decode cX2_thrown 0 = .ok (.aload_n 0, 1) := by decide +kernel
theorem dX2_thrown_1 : decode cX2_thrown 1 = .ok (.getfield 26, 3) := by decide +kernel
theorem dX2_thrown_4 : decode cX2_thrown 4 = .ok (.ireturn, 1) := by decide +kernel
theorem dX2_fail_0 : decode cX2_fail 0 = .ok (.aload_n 0, 1) := by decide +kernel
theorem dX2_fail_1 : decode cX2_fail 1 = .ok (.iload_n 1, 1) := by decide +kernel
theorem dX2_fail_2 : decode cX2_fail 2 = .ok (.putfield 26, 3) := by decide +kernel
theorem dX2_fail_5 : decode cX2_fail 5 = .ok (.iconst 0, 1) := by decide +kernel
theorem dX2_fail_6 : decode cX2_fail 6 = .ok (.ireturn, 1) := by decide +kernel
theorem dX2_told_0 : decode cX2_told 0 = .ok (.aload_n 0, 1) := by decide +kernel
theorem dX2_told_1 : decode cX2_told 1 = .ok (.iconst 0, 1) := by decide +kernel
theorem dX2_told_2 : decode cX2_told 2 = .ok (.putfield 26, 3) := by decide +kernel
theorem dX2_told_5 : decode cX2_told 5 = .ok (.iload_n 1, 1) := by decide +kernel
theorem dX2_told_6 : decode cX2_told 6 = .ok (.ireturn, 1) := by decide +kernel
theorem dX2_isIn_0 : decode cX2_isIn 0 = .ok (.iload_n 0, 1) := by decide +kernel
theorem dX2_isIn_1 : decode cX2_isIn 1 = .ok (.iload_n 1, 1) := by decide +kernel
theorem dX2_isIn_2 : decode cX2_isIn 2 = .ok (.if_icmp .lt 12, 3) := by decide +kernel
theorem dX2_isIn_5 : decode cX2_isIn 5 = .ok (.iload_n 0, 1) := by decide +kernel
theorem dX2_isIn_6 : decode cX2_isIn 6 = .ok (.iload_n 2, 1) := by decide +kernel
theorem dX2_isIn_7 : decode cX2_isIn 7 = .ok (.if_icmp .gt 7, 3) := by decide +kernel
theorem dX2_isIn_10 : decode cX2_isIn 10 = .ok (.iconst 1, 1) := by decide +kernel
theorem dX2_isIn_11 : decode cX2_isIn 11 = .ok (.goto 4, 3) := by decide +kernel
theorem dX2_isIn_14 : decode cX2_isIn 14 = .ok (.iconst 0, 1) := by decide +kernel
theorem dX2_isIn_15 : decode cX2_isIn 15 = .ok (.ireturn, 1) := by decide +kernel
set_option maxRecDepth 20000 in
theorem ggX2_isTraveller_X2_isIn : GoodIn wsX2_isTraveller wsX2_isIn := goodIn_r _ [5] (by decide +kernel) (by decide +kernel)
set_option maxRecDepth 20000 in
theorem gX2_isTraveller_X2_isIn : GoodIn wsX2_isTraveller (va_wsS RX2 33 yX2_isIn wsX2_isIn) := goodIn_app (goodIn_of _ (by decide +kernel)) ggX2_isTraveller_X2_isIn
theorem dX2_isTraveller_0 : decode cX2_isTraveller 0 = .ok (.iload_n 1, 1) := by decide +kernel
theorem dX2_isTraveller_1 : decode cX2_isTraveller 1 = .ok (.iconst 0, 1) := by decide +kernel
theorem dX2_isTraveller_2 : decode cX2_isTraveller 2 = .ok (.aload_n 0, 1) := by decide +kernel
theorem dX2_isTraveller_3 : decode cX2_isTraveller 3 = .ok (.getfield 30, 3) := by decide +kernel
theorem dX2_isTraveller_6 : decode cX2_isTraveller 6 = .ok (.iconst 1, 1) := by decide +kernel
theorem dX2_isTraveller_7 : decode cX2_isTraveller 7 = .ok (.isub, 1) := by decide +kernel
theorem dX2_isTraveller_8 : decode cX2_isTraveller 8 = .ok (.invokestatic 33, 3) := by decide +kernel
theorem dX2_isTraveller_11 : decode cX2_isTraveller 11 = .ok (.ireturn, 1) := by decide +kernel
set_option maxRecDepth 20000 in
theorem ggX2_isGuard_X2_isIn : GoodIn wsX2_isGuard wsX2_isIn := goodIn_r _ [5] (by decide +kernel) (by decide +kernel)
set_option maxRecDepth 20000 in
theorem gX2_isGuard_X2_isIn : GoodIn wsX2_isGuard (va_wsS RX2 33 yX2_isIn wsX2_isIn) := goodIn_app (goodIn_of _ (by decide +kernel)) ggX2_isGuard_X2_isIn
theorem dX2_isGuard_0 : decode cX2_isGuard 0 = .ok (.iload_n 1, 1) := by decide +kernel
theorem dX2_isGuard_1 : decode cX2_isGuard 1 = .ok (.iconst 0, 1) := by decide +kernel
theorem dX2_isGuard_2 : decode cX2_isGuard 2 = .ok (.aload_n 0, 1) := by decide +kernel
theorem dX2_isGuard_3 : decode cX2_isGuard 3 = .ok (.getfield 16, 3) := by decide +kernel
theorem dX2_isGuard_6 : decode cX2_isGuard 6 = .ok (.iconst 3, 1) := by decide +kernel
theorem dX2_isGuard_7 : decode cX2_isGuard 7 = .ok (.iaload, 1) := by decide +kernel
theorem dX2_isGuard_8 : decode cX2_isGuard 8 = .ok (.iconst 1, 1) := by decide +kernel
theorem dX2_isGuard_9 : decode cX2_isGuard 9 = .ok (.isub, 1) := by decide +kernel
theorem dX2_isGuard_10 : decode cX2_isGuard 10 = .ok (.invokestatic 33, 3) := by decide +kernel
theorem dX2_isGuard_13 : decode cX2_isGuard 13 = .ok (.ireturn, 1) := by decide +kernel
theorem dX2_tr_0 : decode cX2_tr 0 = .ok (.aload_n 0, 1) := by decide +kernel
theorem dX2_tr_1 : decode cX2_tr 1 = .ok (.getfield 16, 3) := by decide +kernel
theorem dX2_tr_4 : decode cX2_tr 4 = .ok (.bipush 28, 2) := by decide +kernel
theorem dX2_tr_6 : decode cX2_tr 6 = .ok (.iconst 4, 1) := by decide +kernel
theorem dX2_tr_7 : decode cX2_tr 7 = .ok (.iload_n 1, 1) := by decide +kernel
theorem dX2_tr_8 : decode cX2_tr 8 = .ok (.imul, 1) := by decide +kernel
theorem dX2_tr_9 : decode cX2_tr 9 = .ok (.iadd, 1) := by decide +kernel
theorem dX2_tr_10 : decode cX2_tr 10 = .ok (.iload_n 2, 1) := by decide +kernel
theorem dX2_tr_11 : decode cX2_tr 11 = .ok (.iadd, 1) := by decide +kernel
theorem dX2_tr_12 : decode cX2_tr 12 = .ok (.iaload, 1) := by decide +kernel
theorem dX2_tr_13 : decode cX2_tr 13 = .ok (.ireturn, 1) := by decide +kernel
theorem dX2_let_0 : decode cX2_let 0 = .ok (.aload_n 0, 1) := by decide +kernel
theorem dX2_let_1 : decode cX2_let 1 = .ok (.getfield 16, 3) := by decide +kernel
theorem dX2_let_4 : decode cX2_let 4 = .ok (.bipush 28, 2) := by decide +kernel
theorem dX2_let_6 : decode cX2_let 6 = .ok (.iconst 4, 1) := by decide +kernel
theorem dX2_let_7 : decode cX2_let 7 = .ok (.iload_n 1, 1) := by decide +kernel
theorem dX2_let_8 : decode cX2_let 8 = .ok (.imul, 1) := by decide +kernel
theorem dX2_let_9 : decode cX2_let 9 = .ok (.iadd, 1) := by decide +kernel
theorem dX2_let_10 : decode cX2_let 10 = .ok (.iload_n 2, 1) := by decide +kernel
theorem dX2_let_11 : decode cX2_let 11 = .ok (.iadd, 1) := by decide +kernel
theorem dX2_let_12 : decode cX2_let 12 = .ok (.iload_n 3, 1) := by decide +kernel
theorem dX2_let_13 : decode cX2_let 13 = .ok (.iastore, 1) := by decide +kernel
theorem dX2_let_14 : decode cX2_let 14 = .ok (.return_, 1) := by decide +kernel
theorem dX2_gu_0 : decode cX2_gu 0 = .ok (.aload_n 0, 1) := by decide +kernel
theorem dX2_gu_1 : decode cX2_gu 1 = .ok (.getfield 16, 3) := by decide +kernel
theorem dX2_gu_4 : decode cX2_gu 4 = .ok (.iconst 4, 1) := by decide +kernel
theorem dX2_gu_5 : decode cX2_gu 5 = .ok (.iconst 3, 1) := by decide +kernel
theorem dX2_gu_6 : decode cX2_gu 6 = .ok (.iload_n 1, 1) := by decide +kernel
theorem dX2_gu_7 : decode cX2_gu 7 = .ok (.imul, 1) := by decide +kernel
theorem dX2_gu_8 : decode cX2_gu 8 = .ok (.iadd, 1) := by decide +kernel
theorem dX2_gu_9 : decode cX2_gu 9 = .ok (.iload_n 2, 1) := by decide +kernel
theorem dX2_gu_10 : decode cX2_gu 10 = .ok (.iadd, 1) := by decide +kernel
theorem dX2_gu_11 : decode cX2_gu 11 = .ok (.iaload, 1) := by decide +kernel
theorem dX2_gu_12 : decode cX2_gu 12 = .ok (.ireturn, 1) := by decide +kernel
theorem dX2_post_0 : decode cX2_post 0 = .ok (.aload_n 0, 1) := by decide +kernel
theorem dX2_post_1 : decode cX2_post 1 = .ok (.getfield 16, 3) := by decide +kernel
theorem dX2_post_4 : decode cX2_post 4 = .ok (.iconst 4, 1) := by decide +kernel
theorem dX2_post_5 : decode cX2_post 5 = .ok (.iconst 3, 1) := by decide +kernel
theorem dX2_post_6 : decode cX2_post 6 = .ok (.iload_n 1, 1) := by decide +kernel
theorem dX2_post_7 : decode cX2_post 7 = .ok (.imul, 1) := by decide +kernel
theorem dX2_post_8 : decode cX2_post 8 = .ok (.iadd, 1) := by decide +kernel
theorem dX2_post_9 : decode cX2_post 9 = .ok (.iload_n 2, 1) := by decide +kernel
theorem dX2_post_10 : decode cX2_post 10 = .ok (.iadd, 1) := by decide +kernel
theorem dX2_post_11 : decode cX2_post 11 = .ok (.iload_n 3, 1) := by decide +kernel
theorem dX2_post_12 : decode cX2_post 12 = .ok (.iastore, 1) := by decide +kernel
theorem dX2_post_13 : decode cX2_post 13 = .ok (.return_, 1) := by decide +kernel
theorem dX2_keep_0 : decode cX2_keep 0 = .ok (.aload_n 0, 1) := by decide +kernel
theorem dX2_keep_1 : decode cX2_keep 1 = .ok (.getfield 16, 3) := by decide +kernel
theorem dX2_keep_4 : decode cX2_keep 4 = .ok (.iconst 0, 1) := by decide +kernel
theorem dX2_keep_5 : decode cX2_keep 5 = .ok (.aload_n 0, 1) := by decide +kernel
theorem dX2_keep_6 : decode cX2_keep 6 = .ok (.getfield 19, 3) := by decide +kernel
theorem dX2_keep_9 : decode cX2_keep 9 = .ok (.iconst 0, 1) := by decide +kernel
theorem dX2_keep_10 : decode cX2_keep 10 = .ok (.bipush 124, 2) := by decide +kernel
theorem dX2_keep_12 : decode cX2_keep 12 = .ok (.invokestatic 37, 3) := by decide +kernel
theorem dX2_keep_15 : decode cX2_keep 15 = .ok (.return_, 1) := by decide +kernel
theorem dX2_bringBack_0 : decode cX2_bringBack 0 = .ok (.aload_n 0, 1) := by decide +kernel
theorem dX2_bringBack_1 : decode cX2_bringBack 1 = .ok (.getfield 19, 3) := by decide +kernel
theorem dX2_bringBack_4 : decode cX2_bringBack 4 = .ok (.iconst 0, 1) := by decide +kernel
theorem dX2_bringBack_5 : decode cX2_bringBack 5 = .ok (.aload_n 0, 1) := by decide +kernel
theorem dX2_bringBack_6 : decode cX2_bringBack 6 = .ok (.getfield 16, 3) := by decide +kernel
theorem dX2_bringBack_9 : decode cX2_bringBack 9 = .ok (.iconst 0, 1) := by decide +kernel
theorem dX2_bringBack_10 : decode cX2_bringBack 10 = .ok (.bipush 124, 2) := by decide +kernel
theorem dX2_bringBack_12 : decode cX2_bringBack 12 = .ok (.invokestatic 37, 3) := by decide +kernel
theorem dX2_bringBack_15 : decode cX2_bringBack 15 = .ok (.return_, 1) := by decide +kernel
set_option maxRecDepth 20000 in
theorem ggX2_count_X2_tr : GoodIn wsX2_count wsX2_tr := goodIn_r _ [6, 7, 8, 9, 10, 11, 12, 13, 14] (by decide +kernel) (by decide +kernel)
set_option maxRecDepth 20000 in
theorem gX2_count_X2_tr : GoodIn wsX2_count (wsV RX2 43 RX2 yX2_tr wsX2_tr) := goodIn_app (goodIn_of _ (by decide +kernel)) ggX2_count_X2_tr
theorem dX2_count_0 : decode cX2_count 0 = .ok (.iconst 0, 1) := by decide +kernel
theorem dX2_count_1 : decode cX2_count 1 = .ok (.istore_n 2, 1) := by decide +kernel
theorem dX2_count_2 : decode cX2_count 2 = .ok (.iconst 0, 1) := by decide +kernel
theorem dX2_count_3 : decode cX2_count 3 = .ok (.istore_n 3, 1) := by decide +kernel
theorem dX2_count_4 : decode cX2_count 4 = .ok (.iload_n 3, 1) := by decide +kernel
theorem dX2_count_5 : decode cX2_count 5 = .ok (.aload_n 0, 1) := by decide +kernel
theorem dX2_count_6 : decode cX2_count 6 = .ok (.getfield 30, 3) := by decide +kernel
theorem dX2_count_9 : decode cX2_count 9 = .ok (.if_icmp .ge 27, 3) := by decide +kernel
theorem dX2_count_12 : decode cX2_count 12 = .ok (.iload_n 2, 1) := by decide +kernel
theorem dX2_count_13 : decode cX2_count 13 = .ok (.aload_n 0, 1) := by decide +kernel
theorem dX2_count_14 : decode cX2_count 14 = .ok (.iload_n 3, 1) := by decide +kernel
theorem dX2_count_15 : decode cX2_count 15 = .ok (.iconst 0, 1) := by decide +kernel
theorem dX2_count_16 : decode cX2_count 16 = .ok (.invokevirtual 43, 3) := by decide +kernel
theorem dX2_count_19 : decode cX2_count 19 = .ok (.iload_n 1, 1) := by decide +kernel
theorem dX2_count_20 : decode cX2_count 20 = .ok (.if_icmp .ne 7, 3) := by decide +kernel
theorem dX2_count_23 : decode cX2_count 23 = .ok (.iconst 1, 1) := by decide +kernel
theorem dX2_count_24 : decode cX2_count 24 = .ok (.goto 4, 3) := by decide +kernel
theorem dX2_count_27 : decode cX2_count 27 = .ok (.iconst 0, 1) := by decide +kernel
theorem dX2_count_28 : decode cX2_count 28 = .ok (.iadd, 1) := by decide +kernel
theorem dX2_count_29 : decode cX2_count 29 = .ok (.istore_n 2, 1) := by decide +kernel
theorem dX2_count_30 : decode cX2_count 30 = .ok (.iinc 3 1, 3) := by decide +kernel
theorem dX2_count_33 : decode cX2_count 33 = .ok (.goto (-29), 3) := by decide +kernel
theorem dX2_count_36 : decode cX2_count 36 = .ok (.iload_n 2, 1) := by decide +kernel
theorem dX2_count_37 : decode cX2_count 37 = .ok (.ireturn, 1) := by decide +kernel
set_option maxRecDepth 20000 in
theorem ggX2_loud_X2_tr : GoodIn wsX2_loud wsX2_tr := goodIn_r _ [7, 8, 9, 10, 11, 12, 13, 14, 15] (by decide +kernel) (by decide +kernel)
set_option maxRecDepth 20000 in
theorem gX2_loud_X2_tr : GoodIn wsX2_loud (wsV RX2 43 RX2 yX2_tr wsX2_tr) := goodIn_app (goodIn_of _ (by decide +kernel)) ggX2_loud_X2_tr
theorem dX2_loud_0 : decode cX2_loud 0 = .ok (.iconst 0, 1) := by decide +kernel
theorem dX2_loud_1 : decode cX2_loud 1 = .ok (.istore_n 1, 1) := by decide +kernel
theorem dX2_loud_2 : decode cX2_loud 2 = .ok (.iconst 0, 1) := by decide +kernel
theorem dX2_loud_3 : decode cX2_loud 3 = .ok (.istore_n 2, 1) := by decide +kernel
theorem dX2_loud_4 : decode cX2_loud 4 = .ok (.iload_n 2, 1) := by decide +kernel
theorem dX2_loud_5 : decode cX2_loud 5 = .ok (.aload_n 0, 1) := by decide +kernel
theorem dX2_loud_6 : decode cX2_loud 6 = .ok (.getfield 30, 3) := by decide +kernel
theorem dX2_loud_9 : decode cX2_loud 9 = .ok (.if_icmp .ge 32, 3) := by decide +kernel
theorem dX2_loud_12 : decode cX2_loud 12 = .ok (.iload_n 1, 1) := by decide +kernel
theorem dX2_loud_13 : decode cX2_loud 13 = .ok (.aload_n 0, 1) := by decide +kernel
theorem dX2_loud_14 : decode cX2_loud 14 = .ok (.iload_n 2, 1) := by decide +kernel
theorem dX2_loud_15 : decode cX2_loud 15 = .ok (.iconst 0, 1) := by decide +kernel
theorem dX2_loud_16 : decode cX2_loud 16 = .ok (.invokevirtual 43, 3) := by decide +kernel
theorem dX2_loud_19 : decode cX2_loud 19 = .ok (.iconst 2, 1) := by decide +kernel
theorem dX2_loud_20 : decode cX2_loud 20 = .ok (.if_icmp .ne 12, 3) := by decide +kernel
theorem dX2_loud_23 : decode cX2_loud 23 = .ok (.aload_n 0, 1) := by decide +kernel
theorem dX2_loud_24 : decode cX2_loud 24 = .ok (.getfield 13, 3) := by decide +kernel
theorem dX2_loud_27 : decode cX2_loud 27 = .ok (.iload_n 2, 1) := by decide +kernel
theorem dX2_loud_28 : decode cX2_loud 28 = .ok (.iaload, 1) := by decide +kernel
theorem dX2_loud_29 : decode cX2_loud 29 = .ok (.goto 4, 3) := by decide +kernel
theorem dX2_loud_32 : decode cX2_loud 32 = .ok (.iconst 0, 1) := by decide +kernel
theorem dX2_loud_33 : decode cX2_loud 33 = .ok (.iadd, 1) := by decide +kernel
theorem dX2_loud_34 : decode cX2_loud 34 = .ok (.istore_n 1, 1) := by decide +kernel
theorem dX2_loud_35 : decode cX2_loud 35 = .ok (.iinc 2 1, 3) := by decide +kernel
theorem dX2_loud_38 : decode cX2_loud 38 = .ok (.goto (-34), 3) := by decide +kernel
theorem dX2_loud_41 : decode cX2_loud 41 = .ok (.iload_n 1, 1) := by decide +kernel
theorem dX2_loud_42 : decode cX2_loud 42 = .ok (.ireturn, 1) := by decide +kernel
set_option maxRecDepth 20000 in
theorem ggX2_hidden_X2_tr : GoodIn wsX2_hidden wsX2_tr := goodIn_r _ [10, 11, 12, 13, 14, 15, 16, 17, 18] (by decide +kernel) (by decide +kernel)
set_option maxRecDepth 20000 in
theorem gX2_hidden_X2_tr : GoodIn wsX2_hidden (wsV RX2 43 RX2 yX2_tr wsX2_tr) := goodIn_app (goodIn_of _ (by decide +kernel)) ggX2_hidden_X2_tr
theorem dX2_hidden_0 : decode cX2_hidden 0 = .ok (.iconst 0, 1) := by decide +kernel
theorem dX2_hidden_1 : decode cX2_hidden 1 = .ok (.aload_n 0, 1) := by decide +kernel
theorem dX2_hidden_2 : decode cX2_hidden 2 = .ok (.getfield 9, 3) := by decide +kernel
theorem dX2_hidden_5 : decode cX2_hidden 5 = .ok (.iload_n 1, 1) := by decide +kernel
theorem dX2_hidden_6 : decode cX2_hidden 6 = .ok (.iaload, 1) := by decide +kernel
theorem dX2_hidden_7 : decode cX2_hidden 7 = .ok (.aload_n 0, 1) := by decide +kernel
theorem dX2_hidden_8 : decode cX2_hidden 8 = .ok (.iload_n 1, 1) := by decide +kernel
theorem dX2_hidden_9 : decode cX2_hidden 9 = .ok (.iconst 2, 1) := by decide +kernel
theorem dX2_hidden_10 : decode cX2_hidden 10 = .ok (.invokevirtual 43, 3) := by decide +kernel
theorem dX2_hidden_13 : decode cX2_hidden 13 = .ok (.isub, 1) := by decide +kernel
theorem dX2_hidden_14 : decode cX2_hidden 14 = .ok (.invokestatic 47, 3) := by decide +kernel
theorem dX2_hidden_17 : decode cX2_hidden 17 = .ok (.ireturn, 1) := by decide +kernel
set_option maxRecDepth 20000 in
theorem ggX2_finds_X2_hidden : GoodIn wsX2_finds wsX2_hidden := goodIn_r _ [5, 6, 7, 8, 9, 10, 11, 12, 13, 4, 14, 15, 20, 21, 22, 23, 24, 25, 26] (by decide +kernel) (by decide +kernel)
set_option maxRecDepth 20000 in
theorem gX2_finds_X2_hidden : GoodIn wsX2_finds (wsV RX2 52 RX2 yX2_hidden wsX2_hidden) := goodIn_app (goodIn_of _ (by decide +kernel)) ggX2_finds_X2_hidden
set_option maxRecDepth 20000 in
theorem ggX2_finds_X2_gu : GoodIn wsX2_finds wsX2_gu := goodIn_r _ [19, 15, 20, 21, 22, 23, 24, 25, 26] (by decide +kernel) (by decide +kernel)
set_option maxRecDepth 20000 in
theorem gX2_finds_X2_gu : GoodIn wsX2_finds (wsV RX2 56 RX2 yX2_gu wsX2_gu) := goodIn_app (goodIn_of _ (by decide +kernel)) ggX2_finds_X2_gu
theorem dX2_finds_0 : decode cX2_finds 0 = .ok (.aload_n 0, 1) := by decide +kernel
theorem dX2_finds_1 : decode cX2_finds 1 = .ok (.iload_n 2, 1) := by decide +kernel
theorem dX2_finds_2 : decode cX2_finds 2 = .ok (.invokevirtual 52, 3) := by decide +kernel
theorem dX2_finds_5 : decode cX2_finds 5 = .ok (.ifCond .le 24, 3) := by decide +kernel
theorem dX2_finds_8 : decode cX2_finds 8 = .ok (.aload_n 0, 1) := by decide +kernel
theorem dX2_finds_9 : decode cX2_finds 9 = .ok (.iload_n 2, 1) := by decide +kernel
theorem dX2_finds_10 : decode cX2_finds 10 = .ok (.invokevirtual 52, 3) := by decide +kernel
theorem dX2_finds_13 : decode cX2_finds 13 = .ok (.aload_n 0, 1) := by decide +kernel
theorem dX2_finds_14 : decode cX2_finds 14 = .ok (.iload_n 1, 1) := by decide +kernel
theorem dX2_finds_15 : decode cX2_finds 15 = .ok (.iconst 0, 1) := by decide +kernel
theorem dX2_finds_16 : decode cX2_finds 16 = .ok (.invokevirtual 56, 3) := by decide +kernel
theorem dX2_finds_19 : decode cX2_finds 19 = .ok (.iadd, 1) := by decide +kernel
theorem dX2_finds_20 : decode cX2_finds 20 = .ok (.bipush 10, 2) := by decide +kernel
theorem dX2_finds_22 : decode cX2_finds 22 = .ok (.if_icmp .lt 7, 3) := by decide +kernel
theorem dX2_finds_25 : decode cX2_finds 25 = .ok (.iconst 1, 1) := by decide +kernel
theorem dX2_finds_26 : decode cX2_finds 26 = .ok (.goto 4, 3) := by decide +kernel
theorem dX2_finds_29 : decode cX2_finds 29 = .ok (.iconst 0, 1) := by decide +kernel
theorem dX2_finds_30 : decode cX2_finds 30 = .ok (.ireturn, 1) := by decide +kernel
set_option maxRecDepth 20000 in
theorem ggX2_takes_X2_tr : GoodIn wsX2_takes wsX2_tr := goodIn_r _ [5, 6, 13, 14, 15, 16, 17, 18, 19] (by decide +kernel) (by decide +kernel)
set_option maxRecDepth 20000 in
theorem gX2_takes_X2_tr : GoodIn wsX2_takes (wsV RX2 43 RX2 yX2_tr wsX2_tr) := goodIn_app (goodIn_of _ (by decide +kernel)) ggX2_takes_X2_tr
set_option maxRecDepth 20000 in
theorem ggX2_takes_X2_loud : GoodIn wsX2_takes wsX2_loud := goodIn_r _ [10, 11, 12, 1, 2, 3, 4, 5, 6, 13, 14, 15, 16, 17, 18, 19] (by decide +kernel) (by decide +kernel)
set_option maxRecDepth 20000 in
theorem gX2_takes_X2_loud : GoodIn wsX2_takes (wsV RX2 59 RX2 yX2_loud wsX2_loud) := goodIn_app (goodIn_of _ (by decide +kernel)) ggX2_takes_X2_loud
theorem dX2_takes_0 : decode cX2_takes 0 = .ok (.iconst 2, 1) := by decide +kernel
theorem dX2_takes_1 : decode cX2_takes 1 = .ok (.aload_n 0, 1) := by decide +kernel
theorem dX2_takes_2 : decode cX2_takes 2 = .ok (.iload_n 1, 1) := by decide +kernel
theorem dX2_takes_3 : decode cX2_takes 3 = .ok (.iconst 2, 1) := by decide +kernel
theorem dX2_takes_4 : decode cX2_takes 4 = .ok (.invokevirtual 43, 3) := by decide +kernel
theorem dX2_takes_7 : decode cX2_takes 7 = .ok (.iadd, 1) := by decide +kernel
theorem dX2_takes_8 : decode cX2_takes 8 = .ok (.aload_n 0, 1) := by decide +kernel
theorem dX2_takes_9 : decode cX2_takes 9 = .ok (.invokevirtual 59, 3) := by decide +kernel
theorem dX2_takes_12 : decode cX2_takes 12 = .ok (.iconst 4, 1) := by decide +kernel
theorem dX2_takes_13 : decode cX2_takes 13 = .ok (.idiv, 1) := by decide +kernel
theorem dX2_takes_14 : decode cX2_takes 14 = .ok (.iadd, 1) := by decide +kernel
theorem dX2_takes_15 : decode cX2_takes 15 = .ok (.ireturn, 1) := by decide +kernel
set_option maxRecDepth 20000 in
theorem ggX2_first_X2_tr : GoodIn wsX2_first wsX2_tr := goodIn_r _ [6, 7, 8, 9, 10, 11, 12, 13, 14] (by decide +kernel) (by decide +kernel)
set_option maxRecDepth 20000 in
theorem gX2_first_X2_tr : GoodIn wsX2_first (wsV RX2 43 RX2 yX2_tr wsX2_tr) := goodIn_app (goodIn_of _ (by decide +kernel)) ggX2_first_X2_tr
theorem dX2_first_0 : decode cX2_first 0 = .ok (.iconst 0, 1) := by decide +kernel
theorem dX2_first_1 : decode cX2_first 1 = .ok (.istore_n 1, 1) := by decide +kernel
theorem dX2_first_2 : decode cX2_first 2 = .ok (.iload_n 1, 1) := by decide +kernel
theorem dX2_first_3 : decode cX2_first 3 = .ok (.aload_n 0, 1) := by decide +kernel
theorem dX2_first_4 : decode cX2_first 4 = .ok (.getfield 30, 3) := by decide +kernel
theorem dX2_first_7 : decode cX2_first 7 = .ok (.if_icmp .ge 20, 3) := by decide +kernel
theorem dX2_first_10 : decode cX2_first 10 = .ok (.aload_n 0, 1) := by decide +kernel
theorem dX2_first_11 : decode cX2_first 11 = .ok (.iload_n 1, 1) := by decide +kernel
theorem dX2_first_12 : decode cX2_first 12 = .ok (.iconst 0, 1) := by decide +kernel
theorem dX2_first_13 : decode cX2_first 13 = .ok (.invokevirtual 43, 3) := by decide +kernel
theorem dX2_first_16 : decode cX2_first 16 = .ok (.ifCond .ne 5, 3) := by decide +kernel
theorem dX2_first_19 : decode cX2_first 19 = .ok (.iload_n 1, 1) := by decide +kernel
theorem dX2_first_20 : decode cX2_first 20 = .ok (.ireturn, 1) := by decide +kernel
theorem dX2_first_21 : decode cX2_first 21 = .ok (.iinc 1 1, 3) := by decide +kernel
theorem dX2_first_24 : decode cX2_first 24 = .ok (.goto (-22), 3) := by decide +kernel
theorem dX2_first_27 : decode cX2_first 27 = .ok (.iconst (-1), 1) := by decide +kernel
theorem dX2_first_28 : decode cX2_first 28 = .ok (.ireturn, 1) := by decide +kernel
set_option maxRecDepth 20000 in
theorem ggX2_travel_X2_tr : GoodIn wsX2_travel wsX2_tr := goodIn_r _ [5, 6, 11, 12, 13, 14, 15, 16, 17] (by decide +kernel) (by decide +kernel)
set_option maxRecDepth 20000 in
theorem gX2_travel_X2_tr : GoodIn wsX2_travel (wsV RX2 43 RX2 yX2_tr wsX2_tr) := goodIn_app (goodIn_of _ (by decide +kernel)) ggX2_travel_X2_tr
set_option maxRecDepth 20000 in
theorem ggX2_travel_X2_let : GoodIn wsX2_travel wsX2_let := goodIn_r _ [10, 6, 11, 12, 13, 14, 15, 16, 17] (by decide +kernel) (by decide +kernel)
set_option maxRecDepth 20000 in
theorem gX2_travel_X2_let : GoodIn wsX2_travel (wsV RX2 63 RX2 yX2_let wsX2_let) := goodIn_app (goodIn_of _ (by decide +kernel)) ggX2_travel_X2_let
theorem dX2_travel_0 : decode cX2_travel 0 = .ok (.aload_n 0, 1) := by decide +kernel
theorem dX2_travel_1 : decode cX2_travel 1 = .ok (.iload_n 1, 1) := by decide +kernel
theorem dX2_travel_2 : decode cX2_travel 2 = .ok (.iconst 0, 1) := by decide +kernel
theorem dX2_travel_3 : decode cX2_travel 3 = .ok (.invokevirtual 43, 3) := by decide +kernel
theorem dX2_travel_6 : decode cX2_travel 6 = .ok (.iconst 2, 1) := by decide +kernel
theorem dX2_travel_7 : decode cX2_travel 7 = .ok (.if_icmp .ne 33, 3) := by decide +kernel
theorem dX2_travel_10 : decode cX2_travel 10 = .ok (.aload_n 0, 1) := by decide +kernel
theorem dX2_travel_11 : decode cX2_travel 11 = .ok (.iload_n 1, 1) := by decide +kernel
theorem dX2_travel_12 : decode cX2_travel 12 = .ok (.iconst 3, 1) := by decide +kernel
theorem dX2_travel_13 : decode cX2_travel 13 = .ok (.aload_n 0, 1) := by decide +kernel
theorem dX2_travel_14 : decode cX2_travel 14 = .ok (.iload_n 1, 1) := by decide +kernel
theorem dX2_travel_15 : decode cX2_travel 15 = .ok (.iconst 3, 1) := by decide +kernel
theorem dX2_travel_16 : decode cX2_travel 16 = .ok (.invokevirtual 43, 3) := by decide +kernel
theorem dX2_travel_19 : decode cX2_travel 19 = .ok (.iconst 1, 1) := by decide +kernel
theorem dX2_travel_20 : decode cX2_travel 20 = .ok (.isub, 1) := by decide +kernel
theorem dX2_travel_21 : decode cX2_travel 21 = .ok (.invokevirtual 63, 3) := by decide +kernel
theorem dX2_travel_24 : decode cX2_travel 24 = .ok (.aload_n 0, 1) := by decide +kernel
theorem dX2_travel_25 : decode cX2_travel 25 = .ok (.iload_n 1, 1) := by decide +kernel
theorem dX2_travel_26 : decode cX2_travel 26 = .ok (.iconst 3, 1) := by decide +kernel
theorem dX2_travel_27 : decode cX2_travel 27 = .ok (.invokevirtual 43, 3) := by decide +kernel
theorem dX2_travel_30 : decode cX2_travel 30 = .ok (.ifCond .ne 10, 3) := by decide +kernel
theorem dX2_travel_33 : decode cX2_travel 33 = .ok (.aload_n 0, 1) := by decide +kernel
theorem dX2_travel_34 : decode cX2_travel 34 = .ok (.iload_n 1, 1) := by decide +kernel
theorem dX2_travel_35 : decode cX2_travel 35 = .ok (.iconst 0, 1) := by decide +kernel
theorem dX2_travel_36 : decode cX2_travel 36 = .ok (.iconst 3, 1) := by decide +kernel
theorem dX2_travel_37 : decode cX2_travel 37 = .ok (.invokevirtual 63, 3) := by decide +kernel
theorem dX2_travel_40 : decode cX2_travel 40 = .ok (.return_, 1) := by decide +kernel
set_option maxRecDepth 20000 in
theorem ggX2_listen_X2_tr : GoodIn wsX2_listen wsX2_tr := goodIn_r _ [6, 1, 11, 12, 13, 14, 15, 16, 17] (by decide +kernel) (by decide +kernel)
set_option maxRecDepth 20000 in
theorem gX2_listen_X2_tr : GoodIn wsX2_listen (wsV RX2 43 RX2 yX2_tr wsX2_tr) := goodIn_app (goodIn_of _ (by decide +kernel)) ggX2_listen_X2_tr
set_option maxRecDepth 20000 in
theorem ggX2_listen_X2_let : GoodIn wsX2_listen wsX2_let := goodIn_r _ [10, 1, 11, 12, 13, 14, 15, 16, 17] (by decide +kernel) (by decide +kernel)
set_option maxRecDepth 20000 in
theorem gX2_listen_X2_let : GoodIn wsX2_listen (wsV RX2 63 RX2 yX2_let wsX2_let) := goodIn_app (goodIn_of _ (by decide +kernel)) ggX2_listen_X2_let
theorem dX2_listen_0 : decode cX2_listen 0 = .ok (.aload_n 0, 1) := by decide +kernel
theorem dX2_listen_1 : decode cX2_listen 1 = .ok (.iload_n 1, 1) := by decide +kernel
theorem dX2_listen_2 : decode cX2_listen 2 = .ok (.iconst 0, 1) := by decide +kernel
theorem dX2_listen_3 : decode cX2_listen 3 = .ok (.invokevirtual 43, 3) := by decide +kernel
theorem dX2_listen_6 : decode cX2_listen 6 = .ok (.ifCond .eq 4, 3) := by decide +kernel
theorem dX2_listen_9 : decode cX2_listen 9 = .ok (.return_, 1) := by decide +kernel
theorem dX2_listen_10 : decode cX2_listen 10 = .ok (.aload_n 0, 1) := by decide +kernel
theorem dX2_listen_11 : decode cX2_listen 11 = .ok (.iload_n 1, 1) := by decide +kernel
theorem dX2_listen_12 : decode cX2_listen 12 = .ok (.iconst 1, 1) := by decide +kernel
theorem dX2_listen_13 : decode cX2_listen 13 = .ok (.aload_n 0, 1) := by decide +kernel
theorem dX2_listen_14 : decode cX2_listen 14 = .ok (.iload_n 1, 1) := by decide +kernel
theorem dX2_listen_15 : decode cX2_listen 15 = .ok (.iconst 1, 1) := by decide +kernel
theorem dX2_listen_16 : decode cX2_listen 16 = .ok (.invokevirtual 43, 3) := by decide +kernel
theorem dX2_listen_19 : decode cX2_listen 19 = .ok (.iconst 1, 1) := by decide +kernel
theorem dX2_listen_20 : decode cX2_listen 20 = .ok (.isub, 1) := by decide +kernel
theorem dX2_listen_21 : decode cX2_listen 21 = .ok (.invokevirtual 63, 3) := by decide +kernel
theorem dX2_listen_24 : decode cX2_listen 24 = .ok (.aload_n 0, 1) := by decide +kernel
theorem dX2_listen_25 : decode cX2_listen 25 = .ok (.iload_n 1, 1) := by decide +kernel
theorem dX2_listen_26 : decode cX2_listen 26 = .ok (.iconst 1, 1) := by decide +kernel
theorem dX2_listen_27 : decode cX2_listen 27 = .ok (.invokevirtual 43, 3) := by decide +kernel
theorem dX2_listen_30 : decode cX2_listen 30 = .ok (.ifCond .le 4, 3) := by decide +kernel
theorem dX2_listen_33 : decode cX2_listen 33 = .ok (.return_, 1) := by decide +kernel
theorem dX2_listen_34 : decode cX2_listen 34 = .ok (.aload_n 0, 1) := by decide +kernel
theorem dX2_listen_35 : decode cX2_listen 35 = .ok (.iload_n 1, 1) := by decide +kernel
theorem dX2_listen_36 : decode cX2_listen 36 = .ok (.iconst 0, 1) := by decide +kernel
theorem dX2_listen_37 : decode cX2_listen 37 = .ok (.iconst 4, 1) := by decide +kernel
theorem dX2_listen_38 : decode cX2_listen 38 = .ok (.invokevirtual 63, 3) := by decide +kernel
theorem dX2_listen_41 : decode cX2_listen 41 = .ok (.aload_n 0, 1) := by decide +kernel
theorem dX2_listen_42 : decode cX2_listen 42 = .ok (.getfield 16, 3) := by decide +kernel
theorem dX2_listen_45 : decode cX2_listen 45 = .ok (.iconst 1, 1) := by decide +kernel
theorem dX2_listen_46 : decode cX2_listen 46 = .ok (.dup2, 1) := by decide +kernel
theorem dX2_listen_47 : decode cX2_listen 47 = .ok (.iaload, 1) := by decide +kernel
theorem dX2_listen_48 : decode cX2_listen 48 = .ok (.iconst 1, 1) := by decide +kernel
theorem dX2_listen_49 : decode cX2_listen 49 = .ok (.iadd, 1) := by decide +kernel
theorem dX2_listen_50 : decode cX2_listen 50 = .ok (.iastore, 1) := by decide +kernel
theorem dX2_listen_51 : decode cX2_listen 51 = .ok (.return_, 1) := by decide +kernel
set_option maxRecDepth 20000 in
theorem ggX2_searchOn_X2_gu : GoodIn wsX2_searchOn wsX2_gu := goodIn_r _ [10, 1, 32, 33, 34, 35, 36, 37, 38] (by decide +kernel) (by decide +kernel)
set_option maxRecDepth 20000 in
theorem gX2_searchOn_X2_gu : GoodIn wsX2_searchOn (wsV RX2 56 RX2 yX2_gu wsX2_gu) := goodIn_app (goodIn_of _ (by decide +kernel)) ggX2_searchOn_X2_gu
set_option maxRecDepth 20000 in
theorem ggX2_searchOn_X2_post : GoodIn wsX2_searchOn wsX2_post := goodIn_r _ [14, 1, 32, 33, 34, 35, 36, 37, 38] (by decide +kernel) (by decide +kernel)
set_option maxRecDepth 20000 in
theorem gX2_searchOn_X2_post : GoodIn wsX2_searchOn (wsV RX2 67 RX2 yX2_post wsX2_post) := goodIn_app (goodIn_of _ (by decide +kernel)) ggX2_searchOn_X2_post
set_option maxRecDepth 20000 in
theorem ggX2_searchOn_X2_finds : GoodIn wsX2_searchOn wsX2_finds := goodIn_r _ [18, 19, 20, 21, 9, 22, 23, 2, 3, 4, 5, 24, 25, 26, 27, 1, 6, 7, 8, 10, 32, 33, 34, 35, 36, 37, 38] (by decide +kernel) (by decide +kernel)
set_option maxRecDepth 20000 in
theorem gX2_searchOn_X2_finds : GoodIn wsX2_searchOn (wsV RX2 70 RX2 yX2_finds wsX2_finds) := goodIn_app (goodIn_of _ (by decide +kernel)) ggX2_searchOn_X2_finds
set_option maxRecDepth 20000 in
theorem ggX2_searchOn_X2_hidden : GoodIn wsX2_searchOn wsX2_hidden := goodIn_r _ [22, 23, 2, 3, 4, 5, 24, 25, 26, 9, 27, 1, 32, 33, 34, 35, 36, 37, 38] (by decide +kernel) (by decide +kernel)
set_option maxRecDepth 20000 in
theorem gX2_searchOn_X2_hidden : GoodIn wsX2_searchOn (wsV RX2 52 RX2 yX2_hidden wsX2_hidden) := goodIn_app (goodIn_of _ (by decide +kernel)) ggX2_searchOn_X2_hidden
set_option maxRecDepth 20000 in
theorem ggX2_searchOn_X2_let : GoodIn wsX2_searchOn wsX2_let := goodIn_r _ [31, 1, 32, 33, 34, 35, 36, 37, 38] (by decide +kernel) (by decide +kernel)
set_option maxRecDepth 20000 in
theorem gX2_searchOn_X2_let : GoodIn wsX2_searchOn (wsV RX2 63 RX2 yX2_let wsX2_let) := goodIn_app (goodIn_of _ (by decide +kernel)) ggX2_searchOn_X2_let
theorem dX2_searchOn_0 : decode cX2_searchOn 0 = .ok (.aload_n 0, 1) := by decide +kernel
theorem dX2_searchOn_1 : decode cX2_searchOn 1 = .ok (.iload_n 1, 1) := by decide +kernel
theorem dX2_searchOn_2 : decode cX2_searchOn 2 = .ok (.iconst 2, 1) := by decide +kernel
theorem dX2_searchOn_3 : decode cX2_searchOn 3 = .ok (.aload_n 0, 1) := by decide +kernel
theorem dX2_searchOn_4 : decode cX2_searchOn 4 = .ok (.iload_n 1, 1) := by decide +kernel
theorem dX2_searchOn_5 : decode cX2_searchOn 5 = .ok (.iconst 2, 1) := by decide +kernel
theorem dX2_searchOn_6 : decode cX2_searchOn 6 = .ok (.invokevirtual 56, 3) := by decide +kernel
theorem dX2_searchOn_9 : decode cX2_searchOn 9 = .ok (.iconst 1, 1) := by decide +kernel
theorem dX2_searchOn_10 : decode cX2_searchOn 10 = .ok (.isub, 1) := by decide +kernel
theorem dX2_searchOn_11 : decode cX2_searchOn 11 = .ok (.invokevirtual 67, 3) := by decide +kernel
theorem dX2_searchOn_14 : decode cX2_searchOn 14 = .ok (.aload_n 0, 1) := by decide +kernel
theorem dX2_searchOn_15 : decode cX2_searchOn 15 = .ok (.iload_n 1, 1) := by decide +kernel
theorem dX2_searchOn_16 : decode cX2_searchOn 16 = .ok (.iconst 2, 1) := by decide +kernel
theorem dX2_searchOn_17 : decode cX2_searchOn 17 = .ok (.invokevirtual 56, 3) := by decide +kernel
theorem dX2_searchOn_20 : decode cX2_searchOn 20 = .ok (.ifCond .le 4, 3) := by decide +kernel
theorem dX2_searchOn_23 : decode cX2_searchOn 23 = .ok (.return_, 1) := by decide +kernel
theorem dX2_searchOn_24 : decode cX2_searchOn 24 = .ok (.aload_n 0, 1) := by decide +kernel
theorem dX2_searchOn_25 : decode cX2_searchOn 25 = .ok (.iload_n 1, 1) := by decide +kernel
theorem dX2_searchOn_26 : decode cX2_searchOn 26 = .ok (.iconst 1, 1) := by decide +kernel
theorem dX2_searchOn_27 : decode cX2_searchOn 27 = .ok (.invokevirtual 56, 3) := by decide +kernel
theorem dX2_searchOn_30 : decode cX2_searchOn 30 = .ok (.istore_n 2, 1) := by decide +kernel
theorem dX2_searchOn_31 : decode cX2_searchOn 31 = .ok (.aload_n 0, 1) := by decide +kernel
theorem dX2_searchOn_32 : decode cX2_searchOn 32 = .ok (.iload_n 1, 1) := by decide +kernel
theorem dX2_searchOn_33 : decode cX2_searchOn 33 = .ok (.iload_n 2, 1) := by decide +kernel
theorem dX2_searchOn_34 : decode cX2_searchOn 34 = .ok (.invokevirtual 70, 3) := by decide +kernel
theorem dX2_searchOn_37 : decode cX2_searchOn 37 = .ok (.istore_n 3, 1) := by decide +kernel
theorem dX2_searchOn_38 : decode cX2_searchOn 38 = .ok (.iload_n 3, 1) := by decide +kernel
theorem dX2_searchOn_39 : decode cX2_searchOn 39 = .ok (.ifCond .eq 19, 3) := by decide +kernel
theorem dX2_searchOn_42 : decode cX2_searchOn 42 = .ok (.aload_n 0, 1) := by decide +kernel
theorem dX2_searchOn_43 : decode cX2_searchOn 43 = .ok (.getfield 16, 3) := by decide +kernel
theorem dX2_searchOn_46 : decode cX2_searchOn 46 = .ok (.iconst 2, 1) := by decide +kernel
theorem dX2_searchOn_47 : decode cX2_searchOn 47 = .ok (.dup2, 1) := by decide +kernel
theorem dX2_searchOn_48 : decode cX2_searchOn 48 = .ok (.iaload, 1) := by decide +kernel
theorem dX2_searchOn_49 : decode cX2_searchOn 49 = .ok (.iconst 3, 1) := by decide +kernel
theorem dX2_searchOn_50 : decode cX2_searchOn 50 = .ok (.aload_n 0, 1) := by decide +kernel
theorem dX2_searchOn_51 : decode cX2_searchOn 51 = .ok (.iload_n 2, 1) := by decide +kernel
theorem dX2_searchOn_52 : decode cX2_searchOn 52 = .ok (.invokevirtual 52, 3) := by decide +kernel
theorem dX2_searchOn_55 : decode cX2_searchOn 55 = .ok (.imul, 1) := by decide +kernel
theorem dX2_searchOn_56 : decode cX2_searchOn 56 = .ok (.iadd, 1) := by decide +kernel
theorem dX2_searchOn_57 : decode cX2_searchOn 57 = .ok (.iastore, 1) := by decide +kernel
theorem dX2_searchOn_58 : decode cX2_searchOn 58 = .ok (.aload_n 0, 1) := by decide +kernel
theorem dX2_searchOn_59 : decode cX2_searchOn 59 = .ok (.iload_n 2, 1) := by decide +kernel
theorem dX2_searchOn_60 : decode cX2_searchOn 60 = .ok (.iconst 0, 1) := by decide +kernel
theorem dX2_searchOn_61 : decode cX2_searchOn 61 = .ok (.iload_n 3, 1) := by decide +kernel
theorem dX2_searchOn_62 : decode cX2_searchOn 62 = .ok (.ifCond .eq 7, 3) := by decide +kernel
theorem dX2_searchOn_65 : decode cX2_searchOn 65 = .ok (.iconst 4, 1) := by decide +kernel
theorem dX2_searchOn_66 : decode cX2_searchOn 66 = .ok (.goto 4, 3) := by decide +kernel
theorem dX2_searchOn_69 : decode cX2_searchOn 69 = .ok (.iconst 2, 1) := by decide +kernel
theorem dX2_searchOn_70 : decode cX2_searchOn 70 = .ok (.invokevirtual 63, 3) := by decide +kernel
theorem dX2_searchOn_73 : decode cX2_searchOn 73 = .ok (.aload_n 0, 1) := by decide +kernel
theorem dX2_searchOn_74 : decode cX2_searchOn 74 = .ok (.iload_n 2, 1) := by decide +kernel
theorem dX2_searchOn_75 : decode cX2_searchOn 75 = .ok (.iconst 3, 1) := by decide +kernel
theorem dX2_searchOn_76 : decode cX2_searchOn 76 = .ok (.iconst 5, 1) := by decide +kernel
theorem dX2_searchOn_77 : decode cX2_searchOn 77 = .ok (.invokevirtual 63, 3) := by decide +kernel
theorem dX2_searchOn_80 : decode cX2_searchOn 80 = .ok (.aload_n 0, 1) := by decide +kernel
theorem dX2_searchOn_81 : decode cX2_searchOn 81 = .ok (.iload_n 1, 1) := by decide +kernel
theorem dX2_searchOn_82 : decode cX2_searchOn 82 = .ok (.iconst 1, 1) := by decide +kernel
theorem dX2_searchOn_83 : decode cX2_searchOn 83 = .ok (.iconst (-1), 1) := by decide +kernel
theorem dX2_searchOn_84 : decode cX2_searchOn 84 = .ok (.invokevirtual 67, 3) := by decide +kernel
theorem dX2_searchOn_87 : decode cX2_searchOn 87 = .ok (.aload_n 0, 1) := by decide +kernel
theorem dX2_searchOn_88 : decode cX2_searchOn 88 = .ok (.iload_n 1, 1) := by decide +kernel
theorem dX2_searchOn_89 : decode cX2_searchOn 89 = .ok (.iconst 0, 1) := by decide +kernel
theorem dX2_searchOn_90 : decode cX2_searchOn 90 = .ok (.iconst 0, 1) := by decide +kernel
theorem dX2_searchOn_91 : decode cX2_searchOn 91 = .ok (.aload_n 0, 1) := by decide +kernel
theorem dX2_searchOn_92 : decode cX2_searchOn 92 = .ok (.iload_n 1, 1) := by decide +kernel
theorem dX2_searchOn_93 : decode cX2_searchOn 93 = .ok (.iconst 0, 1) := by decide +kernel
theorem dX2_searchOn_94 : decode cX2_searchOn 94 = .ok (.invokevirtual 56, 3) := by decide +kernel
theorem dX2_searchOn_97 : decode cX2_searchOn 97 = .ok (.iconst 1, 1) := by decide +kernel
theorem dX2_searchOn_98 : decode cX2_searchOn 98 = .ok (.isub, 1) := by decide +kernel
theorem dX2_searchOn_99 : decode cX2_searchOn 99 = .ok (.invokestatic 47, 3) := by decide +kernel
theorem dX2_searchOn_102 : decode cX2_searchOn 102 = .ok (.invokevirtual 67, 3) := by decide +kernel
theorem dX2_searchOn_105 : decode cX2_searchOn 105 = .ok (.return_, 1) := by decide +kernel
set_option maxRecDepth 20000 in
theorem ggX2_begin_X2_first : GoodIn wsX2_begin wsX2_first := goodIn_r _ [9, 10, 11, 12, 13, 8, 14, 15, 37, 38, 39, 40, 41, 42, 43] (by decide +kernel) (by decide +kernel)
set_option maxRecDepth 20000 in
theorem gX2_begin_X2_first : GoodIn wsX2_begin (wsV RX2 74 RX2 yX2_first wsX2_first) := goodIn_app (goodIn_of _ (by decide +kernel)) ggX2_begin_X2_first
set_option maxRecDepth 20000 in
theorem ggX2_begin_X2_gu : GoodIn wsX2_begin wsX2_gu := goodIn_r _ [19, 15, 37, 38, 39, 40, 41, 42, 43] (by decide +kernel) (by decide +kernel)
set_option maxRecDepth 20000 in
theorem gX2_begin_X2_gu : GoodIn wsX2_begin (wsV RX2 56 RX2 yX2_gu wsX2_gu) := goodIn_app (goodIn_of _ (by decide +kernel)) ggX2_begin_X2_gu
set_option maxRecDepth 20000 in
theorem ggX2_begin_X2_post : GoodIn wsX2_begin wsX2_post := goodIn_r _ [23, 15, 37, 38, 39, 40, 41, 42, 43] (by decide +kernel) (by decide +kernel)
set_option maxRecDepth 20000 in
theorem gX2_begin_X2_post : GoodIn wsX2_begin (wsV RX2 67 RX2 yX2_post wsX2_post) := goodIn_app (goodIn_of _ (by decide +kernel)) ggX2_begin_X2_post
set_option maxRecDepth 20000 in
theorem ggX2_begin_X2_takes : GoodIn wsX2_begin wsX2_takes := goodIn_r _ [27, 11, 12, 13, 8, 14, 15, 28, 29, 30, 31, 10, 32, 37, 38, 39, 40, 41, 42, 43] (by decide +kernel) (by decide +kernel)
set_option maxRecDepth 20000 in
theorem gX2_begin_X2_takes : GoodIn wsX2_begin (wsV RX2 80 RX2 yX2_takes wsX2_takes) := goodIn_app (goodIn_of _ (by decide +kernel)) ggX2_begin_X2_takes
set_option maxRecDepth 20000 in
theorem ggX2_begin_X2_let : GoodIn wsX2_begin wsX2_let := goodIn_r _ [36, 15, 37, 38, 39, 40, 41, 42, 43] (by decide +kernel) (by decide +kernel)
set_option maxRecDepth 20000 in
theorem gX2_begin_X2_let : GoodIn wsX2_begin (wsV RX2 63 RX2 yX2_let wsX2_let) := goodIn_app (goodIn_of _ (by decide +kernel)) ggX2_begin_X2_let
theorem dX2_begin_0 : decode cX2_begin 0 = .ok (.aload_n 0, 1) := by decide +kernel
theorem dX2_begin_1 : decode cX2_begin 1 = .ok (.invokevirtual 74, 3) := by decide +kernel
theorem dX2_begin_4 : decode cX2_begin 4 = .ok (.istore_n 2, 1) := by decide +kernel
theorem dX2_begin_5 : decode cX2_begin 5 = .ok (.iload_n 2, 1) := by decide +kernel
theorem dX2_begin_6 : decode cX2_begin 6 = .ok (.iconst (-1), 1) := by decide +kernel
theorem dX2_begin_7 : decode cX2_begin 7 = .ok (.if_icmp .ne 23, 3) := by decide +kernel
theorem dX2_begin_10 : decode cX2_begin 10 = .ok (.aload_n 0, 1) := by decide +kernel
theorem dX2_begin_11 : decode cX2_begin 11 = .ok (.iload_n 1, 1) := by decide +kernel
theorem dX2_begin_12 : decode cX2_begin 12 = .ok (.iconst 0, 1) := by decide +kernel
theorem dX2_begin_13 : decode cX2_begin 13 = .ok (.bipush 9, 2) := by decide +kernel
theorem dX2_begin_15 : decode cX2_begin 15 = .ok (.aload_n 0, 1) := by decide +kernel
theorem dX2_begin_16 : decode cX2_begin 16 = .ok (.iload_n 1, 1) := by decide +kernel
theorem dX2_begin_17 : decode cX2_begin 17 = .ok (.iconst 0, 1) := by decide +kernel
theorem dX2_begin_18 : decode cX2_begin 18 = .ok (.invokevirtual 56, 3) := by decide +kernel
theorem dX2_begin_21 : decode cX2_begin 21 = .ok (.iconst 1, 1) := by decide +kernel
theorem dX2_begin_22 : decode cX2_begin 22 = .ok (.iadd, 1) := by decide +kernel
theorem dX2_begin_23 : decode cX2_begin 23 = .ok (.invokestatic 77, 3) := by decide +kernel
theorem dX2_begin_26 : decode cX2_begin 26 = .ok (.invokevirtual 67, 3) := by decide +kernel
theorem dX2_begin_29 : decode cX2_begin 29 = .ok (.return_, 1) := by decide +kernel
theorem dX2_begin_30 : decode cX2_begin 30 = .ok (.aload_n 0, 1) := by decide +kernel
theorem dX2_begin_31 : decode cX2_begin 31 = .ok (.iload_n 1, 1) := by decide +kernel
theorem dX2_begin_32 : decode cX2_begin 32 = .ok (.iconst 1, 1) := by decide +kernel
theorem dX2_begin_33 : decode cX2_begin 33 = .ok (.iload_n 2, 1) := by decide +kernel
theorem dX2_begin_34 : decode cX2_begin 34 = .ok (.invokevirtual 67, 3) := by decide +kernel
theorem dX2_begin_37 : decode cX2_begin 37 = .ok (.aload_n 0, 1) := by decide +kernel
theorem dX2_begin_38 : decode cX2_begin 38 = .ok (.iload_n 1, 1) := by decide +kernel
theorem dX2_begin_39 : decode cX2_begin 39 = .ok (.iconst 2, 1) := by decide +kernel
theorem dX2_begin_40 : decode cX2_begin 40 = .ok (.aload_n 0, 1) := by decide +kernel
theorem dX2_begin_41 : decode cX2_begin 41 = .ok (.iload_n 2, 1) := by decide +kernel
theorem dX2_begin_42 : decode cX2_begin 42 = .ok (.invokevirtual 80, 3) := by decide +kernel
theorem dX2_begin_45 : decode cX2_begin 45 = .ok (.invokevirtual 67, 3) := by decide +kernel
theorem dX2_begin_48 : decode cX2_begin 48 = .ok (.aload_n 0, 1) := by decide +kernel
theorem dX2_begin_49 : decode cX2_begin 49 = .ok (.iload_n 2, 1) := by decide +kernel
theorem dX2_begin_50 : decode cX2_begin 50 = .ok (.iconst 0, 1) := by decide +kernel
theorem dX2_begin_51 : decode cX2_begin 51 = .ok (.iconst 1, 1) := by decide +kernel
theorem dX2_begin_52 : decode cX2_begin 52 = .ok (.invokevirtual 63, 3) := by decide +kernel
theorem dX2_begin_55 : decode cX2_begin 55 = .ok (.return_, 1) := by decide +kernel
set_option maxRecDepth 20000 in
theorem ggX2_minuteOn_X2_gu : GoodIn wsX2_minuteOn wsX2_gu := goodIn_r _ [8, 1, 66, 67, 68, 69, 70, 71, 72] (by decide +kernel) (by decide +kernel)
set_option maxRecDepth 20000 in
theorem gX2_minuteOn_X2_gu : GoodIn wsX2_minuteOn (wsV RX2 56 RX2 yX2_gu wsX2_gu) := goodIn_app (goodIn_of _ (by decide +kernel)) ggX2_minuteOn_X2_gu
set_option maxRecDepth 20000 in
theorem ggX2_minuteOn_X2_travel : GoodIn wsX2_minuteOn wsX2_travel := goodIn_r _ [12, 13, 14, 15, 7, 16, 1, 17, 18, 19, 20, 66, 67, 68, 69, 70, 71, 72] (by decide +kernel) (by decide +kernel)
set_option maxRecDepth 20000 in
theorem gX2_minuteOn_X2_travel : GoodIn wsX2_minuteOn (wsV RX2 83 RX2 yX2_travel wsX2_travel) := goodIn_app (goodIn_of _ (by decide +kernel)) ggX2_minuteOn_X2_travel
set_option maxRecDepth 20000 in
theorem ggX2_minuteOn_X2_listen : GoodIn wsX2_minuteOn wsX2_listen := goodIn_r _ [24, 1, 13, 14, 15, 7, 16, 17, 18, 19, 20, 66, 67, 68, 69, 70, 71, 72] (by decide +kernel) (by decide +kernel)
set_option maxRecDepth 20000 in
theorem gX2_minuteOn_X2_listen : GoodIn wsX2_minuteOn (wsV RX2 87 RX2 yX2_listen wsX2_listen) := goodIn_app (goodIn_of _ (by decide +kernel)) ggX2_minuteOn_X2_listen
set_option maxRecDepth 20000 in
theorem ggX2_minuteOn_X2_begin : GoodIn wsX2_minuteOn wsX2_begin := goodIn_r _ [28, 29, 30, 31, 32, 33, 34, 35, 7, 36, 3, 13, 14, 15, 16, 1, 4, 5, 6, 8, 37, 38, 39, 40, 41, 42, 43, 44, 45, 46, 47, 48, 49, 17, 18, 19, 20, 66, 67, 68, 69, 70, 71, 72] (by decide +kernel) (by decide +kernel)
set_option maxRecDepth 20000 in
theorem gX2_minuteOn_X2_begin : GoodIn wsX2_minuteOn (wsV RX2 90 RX2 yX2_begin wsX2_begin) := goodIn_app (goodIn_of _ (by decide +kernel)) ggX2_minuteOn_X2_begin
set_option maxRecDepth 20000 in
theorem ggX2_minuteOn_X2_searchOn : GoodIn wsX2_minuteOn wsX2_searchOn := goodIn_r _ [53, 1, 54, 55, 31, 56, 4, 5, 6, 7, 8, 37, 38, 39, 40, 57, 58, 59, 60, 61, 62, 63, 64, 65, 13, 14, 15, 16, 17, 18, 19, 20, 66, 67, 68, 69, 70, 71, 72] (by decide +kernel) (by decide +kernel)
set_option maxRecDepth 20000 in
theorem gX2_minuteOn_X2_searchOn : GoodIn wsX2_minuteOn (wsV RX2 93 RX2 yX2_searchOn wsX2_searchOn) := goodIn_app (goodIn_of _ (by decide +kernel)) ggX2_minuteOn_X2_searchOn
theorem dX2_minuteOn_0 : decode cX2_minuteOn 0 = .ok (.iconst 0, 1) := by decide +kernel
theorem dX2_minuteOn_1 : decode cX2_minuteOn 1 = .ok (.istore_n 1, 1) := by decide +kernel
theorem dX2_minuteOn_2 : decode cX2_minuteOn 2 = .ok (.iload_n 1, 1) := by decide +kernel
theorem dX2_minuteOn_3 : decode cX2_minuteOn 3 = .ok (.aload_n 0, 1) := by decide +kernel
theorem dX2_minuteOn_4 : decode cX2_minuteOn 4 = .ok (.getfield 16, 3) := by decide +kernel
theorem dX2_minuteOn_7 : decode cX2_minuteOn 7 = .ok (.iconst 3, 1) := by decide +kernel
theorem dX2_minuteOn_8 : decode cX2_minuteOn 8 = .ok (.iaload, 1) := by decide +kernel
theorem dX2_minuteOn_9 : decode cX2_minuteOn 9 = .ok (.if_icmp .ge 30, 3) := by decide +kernel
theorem dX2_minuteOn_12 : decode cX2_minuteOn 12 = .ok (.aload_n 0, 1) := by decide +kernel
theorem dX2_minuteOn_13 : decode cX2_minuteOn 13 = .ok (.getfield 22, 3) := by decide +kernel
theorem dX2_minuteOn_16 : decode cX2_minuteOn 16 = .ok (.iload_n 1, 1) := by decide +kernel
theorem dX2_minuteOn_17 : decode cX2_minuteOn 17 = .ok (.aload_n 0, 1) := by decide +kernel
theorem dX2_minuteOn_18 : decode cX2_minuteOn 18 = .ok (.iload_n 1, 1) := by decide +kernel
theorem dX2_minuteOn_19 : decode cX2_minuteOn 19 = .ok (.iconst 1, 1) := by decide +kernel
theorem dX2_minuteOn_20 : decode cX2_minuteOn 20 = .ok (.invokevirtual 56, 3) := by decide +kernel
theorem dX2_minuteOn_23 : decode cX2_minuteOn 23 = .ok (.iconst (-1), 1) := by decide +kernel
theorem dX2_minuteOn_24 : decode cX2_minuteOn 24 = .ok (.if_icmp .ne 7, 3) := by decide +kernel
theorem dX2_minuteOn_27 : decode cX2_minuteOn 27 = .ok (.iconst 1, 1) := by decide +kernel
theorem dX2_minuteOn_28 : decode cX2_minuteOn 28 = .ok (.goto 4, 3) := by decide +kernel
theorem dX2_minuteOn_31 : decode cX2_minuteOn 31 = .ok (.iconst 0, 1) := by decide +kernel
theorem dX2_minuteOn_32 : decode cX2_minuteOn 32 = .ok (.bastore, 1) := by decide +kernel
theorem dX2_minuteOn_33 : decode cX2_minuteOn 33 = .ok (.iinc 1 1, 3) := by decide +kernel
theorem dX2_minuteOn_36 : decode cX2_minuteOn 36 = .ok (.goto (-34), 3) := by decide +kernel
theorem dX2_minuteOn_39 : decode cX2_minuteOn 39 = .ok (.iconst 0, 1) := by decide +kernel
theorem dX2_minuteOn_40 : decode cX2_minuteOn 40 = .ok (.istore_n 1, 1) := by decide +kernel
theorem dX2_minuteOn_41 : decode cX2_minuteOn 41 = .ok (.iload_n 1, 1) := by decide +kernel
theorem dX2_minuteOn_42 : decode cX2_minuteOn 42 = .ok (.aload_n 0, 1) := by decide +kernel
theorem dX2_minuteOn_43 : decode cX2_minuteOn 43 = .ok (.getfield 30, 3) := by decide +kernel
theorem dX2_minuteOn_46 : decode cX2_minuteOn 46 = .ok (.if_icmp .ge 14, 3) := by decide +kernel
theorem dX2_minuteOn_49 : decode cX2_minuteOn 49 = .ok (.aload_n 0, 1) := by decide +kernel
theorem dX2_minuteOn_50 : decode cX2_minuteOn 50 = .ok (.iload_n 1, 1) := by decide +kernel
theorem dX2_minuteOn_51 : decode cX2_minuteOn 51 = .ok (.invokevirtual 83, 3) := by decide +kernel
theorem dX2_minuteOn_54 : decode cX2_minuteOn 54 = .ok (.iinc 1 1, 3) := by decide +kernel
theorem dX2_minuteOn_57 : decode cX2_minuteOn 57 = .ok (.goto (-16), 3) := by decide +kernel
theorem dX2_minuteOn_60 : decode cX2_minuteOn 60 = .ok (.iconst 0, 1) := by decide +kernel
theorem dX2_minuteOn_61 : decode cX2_minuteOn 61 = .ok (.istore_n 1, 1) := by decide +kernel
theorem dX2_minuteOn_62 : decode cX2_minuteOn 62 = .ok (.iload_n 1, 1) := by decide +kernel
theorem dX2_minuteOn_63 : decode cX2_minuteOn 63 = .ok (.aload_n 0, 1) := by decide +kernel
theorem dX2_minuteOn_64 : decode cX2_minuteOn 64 = .ok (.getfield 30, 3) := by decide +kernel
theorem dX2_minuteOn_67 : decode cX2_minuteOn 67 = .ok (.if_icmp .ge 14, 3) := by decide +kernel
theorem dX2_minuteOn_70 : decode cX2_minuteOn 70 = .ok (.aload_n 0, 1) := by decide +kernel
theorem dX2_minuteOn_71 : decode cX2_minuteOn 71 = .ok (.iload_n 1, 1) := by decide +kernel
theorem dX2_minuteOn_72 : decode cX2_minuteOn 72 = .ok (.invokevirtual 87, 3) := by decide +kernel
theorem dX2_minuteOn_75 : decode cX2_minuteOn 75 = .ok (.iinc 1 1, 3) := by decide +kernel
theorem dX2_minuteOn_78 : decode cX2_minuteOn 78 = .ok (.goto (-16), 3) := by decide +kernel
theorem dX2_minuteOn_81 : decode cX2_minuteOn 81 = .ok (.iconst 0, 1) := by decide +kernel
theorem dX2_minuteOn_82 : decode cX2_minuteOn 82 = .ok (.istore_n 1, 1) := by decide +kernel
theorem dX2_minuteOn_83 : decode cX2_minuteOn 83 = .ok (.iload_n 1, 1) := by decide +kernel
theorem dX2_minuteOn_84 : decode cX2_minuteOn 84 = .ok (.aload_n 0, 1) := by decide +kernel
theorem dX2_minuteOn_85 : decode cX2_minuteOn 85 = .ok (.getfield 16, 3) := by decide +kernel
theorem dX2_minuteOn_88 : decode cX2_minuteOn 88 = .ok (.iconst 3, 1) := by decide +kernel
theorem dX2_minuteOn_89 : decode cX2_minuteOn 89 = .ok (.iaload, 1) := by decide +kernel
theorem dX2_minuteOn_90 : decode cX2_minuteOn 90 = .ok (.if_icmp .ge 31, 3) := by decide +kernel
theorem dX2_minuteOn_93 : decode cX2_minuteOn 93 = .ok (.aload_n 0, 1) := by decide +kernel
theorem dX2_minuteOn_94 : decode cX2_minuteOn 94 = .ok (.getfield 22, 3) := by decide +kernel
theorem dX2_minuteOn_97 : decode cX2_minuteOn 97 = .ok (.iload_n 1, 1) := by decide +kernel
theorem dX2_minuteOn_98 : decode cX2_minuteOn 98 = .ok (.baload, 1) := by decide +kernel
theorem dX2_minuteOn_99 : decode cX2_minuteOn 99 = .ok (.ifCond .eq 11, 3) := by decide +kernel
theorem dX2_minuteOn_102 : decode cX2_minuteOn 102 = .ok (.aload_n 0, 1) := by decide +kernel
theorem dX2_minuteOn_103 : decode cX2_minuteOn 103 = .ok (.iload_n 1, 1) := by decide +kernel
theorem dX2_minuteOn_104 : decode cX2_minuteOn 104 = .ok (.invokevirtual 90, 3) := by decide +kernel
theorem dX2_minuteOn_107 : decode cX2_minuteOn 107 = .ok (.goto 8, 3) := by decide +kernel
theorem dX2_minuteOn_110 : decode cX2_minuteOn 110 = .ok (.aload_n 0, 1) := by decide +kernel
theorem dX2_minuteOn_111 : decode cX2_minuteOn 111 = .ok (.iload_n 1, 1) := by decide +kernel
theorem dX2_minuteOn_112 : decode cX2_minuteOn 112 = .ok (.invokevirtual 93, 3) := by decide +kernel
theorem dX2_minuteOn_115 : decode cX2_minuteOn 115 = .ok (.iinc 1 1, 3) := by decide +kernel
theorem dX2_minuteOn_118 : decode cX2_minuteOn 118 = .ok (.goto (-35), 3) := by decide +kernel
theorem dX2_minuteOn_121 : decode cX2_minuteOn 121 = .ok (.aload_n 0, 1) := by decide +kernel
theorem dX2_minuteOn_122 : decode cX2_minuteOn 122 = .ok (.getfield 16, 3) := by decide +kernel
theorem dX2_minuteOn_125 : decode cX2_minuteOn 125 = .ok (.iconst 0, 1) := by decide +kernel
theorem dX2_minuteOn_126 : decode cX2_minuteOn 126 = .ok (.dup2, 1) := by decide +kernel
theorem dX2_minuteOn_127 : decode cX2_minuteOn 127 = .ok (.iaload, 1) := by decide +kernel
theorem dX2_minuteOn_128 : decode cX2_minuteOn 128 = .ok (.iconst 1, 1) := by decide +kernel
theorem dX2_minuteOn_129 : decode cX2_minuteOn 129 = .ok (.iadd, 1) := by decide +kernel
theorem dX2_minuteOn_130 : decode cX2_minuteOn 130 = .ok (.iastore, 1) := by decide +kernel
theorem dX2_minuteOn_131 : decode cX2_minuteOn 131 = .ok (.return_, 1) := by decide +kernel
set_option maxRecDepth 20000 in
theorem ggX2_minutesOn_X2_minuteOn : GoodIn wsX2_minutesOn wsX2_minuteOn := goodIn_r _ [5, 6, 7, 8, 9, 10, 11, 4, 12, 13, 14, 15, 16, 17, 18, 19, 20, 21, 22, 23, 24, 25, 26, 27, 28, 29, 30, 31, 32, 33, 34, 35, 36, 37, 38, 39, 40, 41, 42, 43, 44, 45, 46, 47, 48, 49, 50, 51, 52, 53, 54, 55, 56, 57, 58, 59, 60, 61, 62, 63, 64, 65, 66, 67, 68, 69, 70, 71, 72, 73, 74, 75, 76] (by decide +kernel) (by decide +kernel)
set_option maxRecDepth 20000 in
theorem gX2_minutesOn_X2_minuteOn : GoodIn wsX2_minutesOn (wsV RX2 96 RX2 yX2_minuteOn wsX2_minuteOn) := goodIn_app (goodIn_of _ (by decide +kernel)) ggX2_minutesOn_X2_minuteOn
theorem dX2_minutesOn_0 : decode cX2_minutesOn 0 = .ok (.iconst 0, 1) := by decide +kernel
theorem dX2_minutesOn_1 : decode cX2_minutesOn 1 = .ok (.istore_n 2, 1) := by decide +kernel
theorem dX2_minutesOn_2 : decode cX2_minutesOn 2 = .ok (.iload_n 2, 1) := by decide +kernel
theorem dX2_minutesOn_3 : decode cX2_minutesOn 3 = .ok (.iload_n 1, 1) := by decide +kernel
theorem dX2_minutesOn_4 : decode cX2_minutesOn 4 = .ok (.if_icmp .ge 13, 3) := by decide +kernel
theorem dX2_minutesOn_7 : decode cX2_minutesOn 7 = .ok (.aload_n 0, 1) := by decide +kernel
theorem dX2_minutesOn_8 : decode cX2_minutesOn 8 = .ok (.invokevirtual 96, 3) := by decide +kernel
theorem dX2_minutesOn_11 : decode cX2_minutesOn 11 = .ok (.iinc 2 1, 3) := by decide +kernel
theorem dX2_minutesOn_14 : decode cX2_minutesOn 14 = .ok (.goto (-12), 3) := by decide +kernel
theorem dX2_minutesOn_17 : decode cX2_minutesOn 17 = .ok (.return_, 1) := by decide +kernel
set_option maxRecDepth 20000 in
theorem ggX2_hire_X2_post : GoodIn wsX2_hire wsX2_post := goodIn_r _ [6, 1, 7, 8, 9, 10, 11, 12, 13] (by decide +kernel) (by decide +kernel)
set_option maxRecDepth 20000 in
theorem gX2_hire_X2_post : GoodIn wsX2_hire (wsV RX2 67 RX2 yX2_post wsX2_post) := goodIn_app (goodIn_of _ (by decide +kernel)) ggX2_hire_X2_post
theorem dX2_hire_0 : decode cX2_hire 0 = .ok (.aload_n 0, 1) := by decide +kernel
theorem dX2_hire_1 : decode cX2_hire 1 = .ok (.getfield 16, 3) := by decide +kernel
theorem dX2_hire_4 : decode cX2_hire 4 = .ok (.iconst 3, 1) := by decide +kernel
theorem dX2_hire_5 : decode cX2_hire 5 = .ok (.iaload, 1) := by decide +kernel
theorem dX2_hire_6 : decode cX2_hire 6 = .ok (.istore_n 1, 1) := by decide +kernel
theorem dX2_hire_7 : decode cX2_hire 7 = .ok (.aload_n 0, 1) := by decide +kernel
theorem dX2_hire_8 : decode cX2_hire 8 = .ok (.iload_n 1, 1) := by decide +kernel
theorem dX2_hire_9 : decode cX2_hire 9 = .ok (.iconst 0, 1) := by decide +kernel
theorem dX2_hire_10 : decode cX2_hire 10 = .ok (.bipush 9, 2) := by decide +kernel
theorem dX2_hire_12 : decode cX2_hire 12 = .ok (.invokevirtual 67, 3) := by decide +kernel
theorem dX2_hire_15 : decode cX2_hire 15 = .ok (.aload_n 0, 1) := by decide +kernel
theorem dX2_hire_16 : decode cX2_hire 16 = .ok (.iload_n 1, 1) := by decide +kernel
theorem dX2_hire_17 : decode cX2_hire 17 = .ok (.iconst 1, 1) := by decide +kernel
theorem dX2_hire_18 : decode cX2_hire 18 = .ok (.iconst (-1), 1) := by decide +kernel
theorem dX2_hire_19 : decode cX2_hire 19 = .ok (.invokevirtual 67, 3) := by decide +kernel
theorem dX2_hire_22 : decode cX2_hire 22 = .ok (.aload_n 0, 1) := by decide +kernel
theorem dX2_hire_23 : decode cX2_hire 23 = .ok (.iload_n 1, 1) := by decide +kernel
theorem dX2_hire_24 : decode cX2_hire 24 = .ok (.iconst 2, 1) := by decide +kernel
theorem dX2_hire_25 : decode cX2_hire 25 = .ok (.iconst 0, 1) := by decide +kernel
theorem dX2_hire_26 : decode cX2_hire 26 = .ok (.invokevirtual 67, 3) := by decide +kernel
theorem dX2_hire_29 : decode cX2_hire 29 = .ok (.aload_n 0, 1) := by decide +kernel
theorem dX2_hire_30 : decode cX2_hire 30 = .ok (.getfield 16, 3) := by decide +kernel
theorem dX2_hire_33 : decode cX2_hire 33 = .ok (.iconst 3, 1) := by decide +kernel
theorem dX2_hire_34 : decode cX2_hire 34 = .ok (.dup2, 1) := by decide +kernel
theorem dX2_hire_35 : decode cX2_hire 35 = .ok (.iaload, 1) := by decide +kernel
theorem dX2_hire_36 : decode cX2_hire 36 = .ok (.iconst 1, 1) := by decide +kernel
theorem dX2_hire_37 : decode cX2_hire 37 = .ok (.iadd, 1) := by decide +kernel
theorem dX2_hire_38 : decode cX2_hire 38 = .ok (.iastore, 1) := by decide +kernel
theorem dX2_hire_39 : decode cX2_hire 39 = .ok (.return_, 1) := by decide +kernel
set_option maxRecDepth 20000 in
theorem ggX2_addGuard_X2_fail : GoodIn wsX2_addGuard wsX2_fail := goodIn_r _ [7, 1, 16, 17, 18, 19, 20, 21, 22] (by decide +kernel) (by decide +kernel)
set_option maxRecDepth 20000 in
theorem gX2_addGuard_X2_fail : GoodIn wsX2_addGuard (wsV RX2 99 RX2 yX2_fail wsX2_fail) := goodIn_app (goodIn_of _ (by decide +kernel)) ggX2_addGuard_X2_fail
set_option maxRecDepth 20000 in
theorem ggX2_addGuard_X2_hire : GoodIn wsX2_addGuard wsX2_hire := goodIn_r _ [11, 2, 12, 13, 14, 6, 15, 16, 17, 18, 19, 20, 21, 22] (by decide +kernel) (by decide +kernel)
set_option maxRecDepth 20000 in
theorem gX2_addGuard_X2_hire : GoodIn wsX2_addGuard (wsV RX2 102 RX2 yX2_hire wsX2_hire) := goodIn_app (goodIn_of _ (by decide +kernel)) ggX2_addGuard_X2_hire
theorem dX2_addGuard_0 : decode cX2_addGuard 0 = .ok (.aload_n 0, 1) := by decide +kernel
theorem dX2_addGuard_1 : decode cX2_addGuard 1 = .ok (.iconst 0, 1) := by decide +kernel
theorem dX2_addGuard_2 : decode cX2_addGuard 2 = .ok (.putfield 26, 3) := by decide +kernel
theorem dX2_addGuard_5 : decode cX2_addGuard 5 = .ok (.aload_n 0, 1) := by decide +kernel
theorem dX2_addGuard_6 : decode cX2_addGuard 6 = .ok (.getfield 16, 3) := by decide +kernel
theorem dX2_addGuard_9 : decode cX2_addGuard 9 = .ok (.iconst 3, 1) := by decide +kernel
theorem dX2_addGuard_10 : decode cX2_addGuard 10 = .ok (.iaload, 1) := by decide +kernel
theorem dX2_addGuard_11 : decode cX2_addGuard 11 = .ok (.iconst 4, 1) := by decide +kernel
theorem dX2_addGuard_12 : decode cX2_addGuard 12 = .ok (.if_icmp .ne 9, 3) := by decide +kernel
theorem dX2_addGuard_15 : decode cX2_addGuard 15 = .ok (.aload_n 0, 1) := by decide +kernel
theorem dX2_addGuard_16 : decode cX2_addGuard 16 = .ok (.iconst 1, 1) := by decide +kernel
theorem dX2_addGuard_17 : decode cX2_addGuard 17 = .ok (.invokevirtual 99, 3) := by decide +kernel
theorem dX2_addGuard_20 : decode cX2_addGuard 20 = .ok (.ireturn, 1) := by decide +kernel
theorem dX2_addGuard_21 : decode cX2_addGuard 21 = .ok (.aload_n 0, 1) := by decide +kernel
theorem dX2_addGuard_22 : decode cX2_addGuard 22 = .ok (.invokevirtual 102, 3) := by decide +kernel
theorem dX2_addGuard_25 : decode cX2_addGuard 25 = .ok (.aload_n 0, 1) := by decide +kernel
theorem dX2_addGuard_26 : decode cX2_addGuard 26 = .ok (.getfield 16, 3) := by decide +kernel
theorem dX2_addGuard_29 : decode cX2_addGuard 29 = .ok (.iconst 3, 1) := by decide +kernel
theorem dX2_addGuard_30 : decode cX2_addGuard 30 = .ok (.iaload, 1) := by decide +kernel
theorem dX2_addGuard_31 : decode cX2_addGuard 31 = .ok (.iconst 1, 1) := by decide +kernel
theorem dX2_addGuard_32 : decode cX2_addGuard 32 = .ok (.isub, 1) := by decide +kernel
theorem dX2_addGuard_33 : decode cX2_addGuard 33 = .ok (.ireturn, 1) := by decide +kernel
set_option maxRecDepth 20000 in
theorem ggX2_arrive_X2_isIn : GoodIn wsX2_arrive wsX2_isIn := goodIn_r _ [8] (by decide +kernel) (by decide +kernel)
set_option maxRecDepth 20000 in
theorem gX2_arrive_X2_isIn : GoodIn wsX2_arrive (va_wsS RX2 33 yX2_isIn wsX2_isIn) := goodIn_app (goodIn_of _ (by decide +kernel)) ggX2_arrive_X2_isIn
set_option maxRecDepth 20000 in
theorem ggX2_arrive_X2_fail : GoodIn wsX2_arrive wsX2_fail := goodIn_r _ [12, 1, 18, 19, 20, 21, 22, 23, 24] (by decide +kernel) (by decide +kernel)
set_option maxRecDepth 20000 in
theorem gX2_arrive_X2_fail : GoodIn wsX2_arrive (wsV RX2 99 RX2 yX2_fail wsX2_fail) := goodIn_app (goodIn_of _ (by decide +kernel)) ggX2_arrive_X2_fail
set_option maxRecDepth 20000 in
theorem ggX2_arrive_X2_let : GoodIn wsX2_arrive wsX2_let := goodIn_r _ [16, 17, 18, 19, 20, 21, 22, 23, 24] (by decide +kernel) (by decide +kernel)
set_option maxRecDepth 20000 in
theorem gX2_arrive_X2_let : GoodIn wsX2_arrive (wsV RX2 63 RX2 yX2_let wsX2_let) := goodIn_app (goodIn_of _ (by decide +kernel)) ggX2_arrive_X2_let
theorem dX2_arrive_0 : decode cX2_arrive 0 = .ok (.aload_n 0, 1) := by decide +kernel
theorem dX2_arrive_1 : decode cX2_arrive 1 = .ok (.iconst 0, 1) := by decide +kernel
theorem dX2_arrive_2 : decode cX2_arrive 2 = .ok (.putfield 26, 3) := by decide +kernel
theorem dX2_arrive_5 : decode cX2_arrive 5 = .ok (.iload_n 1, 1) := by decide +kernel
theorem dX2_arrive_6 : decode cX2_arrive 6 = .ok (.iconst 0, 1) := by decide +kernel
theorem dX2_arrive_7 : decode cX2_arrive 7 = .ok (.bipush 9, 2) := by decide +kernel
theorem dX2_arrive_9 : decode cX2_arrive 9 = .ok (.invokestatic 33, 3) := by decide +kernel
theorem dX2_arrive_12 : decode cX2_arrive 12 = .ok (.ifCond .eq 34, 3) := by decide +kernel
theorem dX2_arrive_15 : decode cX2_arrive 15 = .ok (.iload_n 2, 1) := by decide +kernel
theorem dX2_arrive_16 : decode cX2_arrive 16 = .ok (.iconst 0, 1) := by decide +kernel
theorem dX2_arrive_17 : decode cX2_arrive 17 = .ok (.bipush 9, 2) := by decide +kernel
theorem dX2_arrive_19 : decode cX2_arrive 19 = .ok (.invokestatic 33, 3) := by decide +kernel
theorem dX2_arrive_22 : decode cX2_arrive 22 = .ok (.ifCond .eq 24, 3) := by decide +kernel
theorem dX2_arrive_25 : decode cX2_arrive 25 = .ok (.iload_n 3, 1) := by decide +kernel
theorem dX2_arrive_26 : decode cX2_arrive 26 = .ok (.iconst 0, 1) := by decide +kernel
theorem dX2_arrive_27 : decode cX2_arrive 27 = .ok (.bipush 9, 2) := by decide +kernel
theorem dX2_arrive_29 : decode cX2_arrive 29 = .ok (.invokestatic 33, 3) := by decide +kernel
theorem dX2_arrive_32 : decode cX2_arrive 32 = .ok (.ifCond .eq 14, 3) := by decide +kernel
theorem dX2_arrive_35 : decode cX2_arrive 35 = .ok (.iload 4, 2) := by decide +kernel
theorem dX2_arrive_37 : decode cX2_arrive 37 = .ok (.iconst 1, 1) := by decide +kernel
theorem dX2_arrive_38 : decode cX2_arrive 38 = .ok (.bipush 60, 2) := by decide +kernel
theorem dX2_arrive_40 : decode cX2_arrive 40 = .ok (.invokestatic 33, 3) := by decide +kernel
theorem dX2_arrive_43 : decode cX2_arrive 43 = .ok (.ifCond .ne 9, 3) := by decide +kernel
theorem dX2_arrive_46 : decode cX2_arrive 46 = .ok (.aload_n 0, 1) := by decide +kernel
theorem dX2_arrive_47 : decode cX2_arrive 47 = .ok (.iconst 1, 1) := by decide +kernel
theorem dX2_arrive_48 : decode cX2_arrive 48 = .ok (.invokevirtual 99, 3) := by decide +kernel
theorem dX2_arrive_51 : decode cX2_arrive 51 = .ok (.ireturn, 1) := by decide +kernel
theorem dX2_arrive_52 : decode cX2_arrive 52 = .ok (.aload_n 0, 1) := by decide +kernel
theorem dX2_arrive_53 : decode cX2_arrive 53 = .ok (.getfield 30, 3) := by decide +kernel
theorem dX2_arrive_56 : decode cX2_arrive 56 = .ok (.bipush 24, 2) := by decide +kernel
theorem dX2_arrive_58 : decode cX2_arrive 58 = .ok (.if_icmp .ne 9, 3) := by decide +kernel
theorem dX2_arrive_61 : decode cX2_arrive 61 = .ok (.aload_n 0, 1) := by decide +kernel
theorem dX2_arrive_62 : decode cX2_arrive 62 = .ok (.iconst 2, 1) := by decide +kernel
theorem dX2_arrive_63 : decode cX2_arrive 63 = .ok (.invokevirtual 99, 3) := by decide +kernel
theorem dX2_arrive_66 : decode cX2_arrive 66 = .ok (.ireturn, 1) := by decide +kernel
theorem dX2_arrive_67 : decode cX2_arrive 67 = .ok (.aload_n 0, 1) := by decide +kernel
theorem dX2_arrive_68 : decode cX2_arrive 68 = .ok (.getfield 9, 3) := by decide +kernel
theorem dX2_arrive_71 : decode cX2_arrive 71 = .ok (.aload_n 0, 1) := by decide +kernel
theorem dX2_arrive_72 : decode cX2_arrive 72 = .ok (.getfield 30, 3) := by decide +kernel
theorem dX2_arrive_75 : decode cX2_arrive 75 = .ok (.iload_n 1, 1) := by decide +kernel
theorem dX2_arrive_76 : decode cX2_arrive 76 = .ok (.iastore, 1) := by decide +kernel
theorem dX2_arrive_77 : decode cX2_arrive 77 = .ok (.aload_n 0, 1) := by decide +kernel
theorem dX2_arrive_78 : decode cX2_arrive 78 = .ok (.getfield 13, 3) := by decide +kernel
theorem dX2_arrive_81 : decode cX2_arrive 81 = .ok (.aload_n 0, 1) := by decide +kernel
theorem dX2_arrive_82 : decode cX2_arrive 82 = .ok (.getfield 30, 3) := by decide +kernel
theorem dX2_arrive_85 : decode cX2_arrive 85 = .ok (.iload_n 3, 1) := by decide +kernel
theorem dX2_arrive_86 : decode cX2_arrive 86 = .ok (.iastore, 1) := by decide +kernel
theorem dX2_arrive_87 : decode cX2_arrive 87 = .ok (.aload_n 0, 1) := by decide +kernel
theorem dX2_arrive_88 : decode cX2_arrive 88 = .ok (.aload_n 0, 1) := by decide +kernel
theorem dX2_arrive_89 : decode cX2_arrive 89 = .ok (.getfield 30, 3) := by decide +kernel
theorem dX2_arrive_92 : decode cX2_arrive 92 = .ok (.iconst 1, 1) := by decide +kernel
theorem dX2_arrive_93 : decode cX2_arrive 93 = .ok (.iload 4, 2) := by decide +kernel
theorem dX2_arrive_95 : decode cX2_arrive 95 = .ok (.invokevirtual 63, 3) := by decide +kernel
theorem dX2_arrive_98 : decode cX2_arrive 98 = .ok (.aload_n 0, 1) := by decide +kernel
theorem dX2_arrive_99 : decode cX2_arrive 99 = .ok (.aload_n 0, 1) := by decide +kernel
theorem dX2_arrive_100 : decode cX2_arrive 100 = .ok (.getfield 30, 3) := by decide +kernel
theorem dX2_arrive_103 : decode cX2_arrive 103 = .ok (.iconst 2, 1) := by decide +kernel
theorem dX2_arrive_104 : decode cX2_arrive 104 = .ok (.iload_n 2, 1) := by decide +kernel
theorem dX2_arrive_105 : decode cX2_arrive 105 = .ok (.invokevirtual 63, 3) := by decide +kernel
theorem dX2_arrive_108 : decode cX2_arrive 108 = .ok (.aload_n 0, 1) := by decide +kernel
theorem dX2_arrive_109 : decode cX2_arrive 109 = .ok (.dup, 1) := by decide +kernel
theorem dX2_arrive_110 : decode cX2_arrive 110 = .ok (.getfield 30, 3) := by decide +kernel
theorem dX2_arrive_113 : decode cX2_arrive 113 = .ok (.iconst 1, 1) := by decide +kernel
theorem dX2_arrive_114 : decode cX2_arrive 114 = .ok (.iadd, 1) := by decide +kernel
theorem dX2_arrive_115 : decode cX2_arrive 115 = .ok (.putfield 30, 3) := by decide +kernel
theorem dX2_arrive_118 : decode cX2_arrive 118 = .ok (.aload_n 0, 1) := by decide +kernel
theorem dX2_arrive_119 : decode cX2_arrive 119 = .ok (.getfield 30, 3) := by decide +kernel
theorem dX2_arrive_122 : decode cX2_arrive 122 = .ok (.iconst 1, 1) := by decide +kernel
theorem dX2_arrive_123 : decode cX2_arrive 123 = .ok (.isub, 1) := by decide +kernel
theorem dX2_arrive_124 : decode cX2_arrive 124 = .ok (.ireturn, 1) := by decide +kernel
set_option maxRecDepth 20000 in
theorem ggX2_write_X2_isTraveller : GoodIn wsX2_write wsX2_isTraveller := goodIn_r _ [6, 7, 8, 9, 5, 10, 24, 25, 26, 27, 28, 29, 30] (by decide +kernel) (by decide +kernel)
set_option maxRecDepth 20000 in
theorem gX2_write_X2_isTraveller : GoodIn wsX2_write (wsV RX2 105 RX2 yX2_isTraveller wsX2_isTraveller) := goodIn_app (goodIn_of _ (by decide +kernel)) ggX2_write_X2_isTraveller
set_option maxRecDepth 20000 in
theorem ggX2_write_X2_fail : GoodIn wsX2_write wsX2_fail := goodIn_r _ [14, 1, 24, 25, 26, 27, 28, 29, 30] (by decide +kernel) (by decide +kernel)
set_option maxRecDepth 20000 in
theorem gX2_write_X2_fail : GoodIn wsX2_write (wsV RX2 99 RX2 yX2_fail wsX2_fail) := goodIn_app (goodIn_of _ (by decide +kernel)) ggX2_write_X2_fail
set_option maxRecDepth 20000 in
theorem ggX2_write_X2_isIn : GoodIn wsX2_write wsX2_isIn := goodIn_r _ [10] (by decide +kernel) (by decide +kernel)
set_option maxRecDepth 20000 in
theorem gX2_write_X2_isIn : GoodIn wsX2_write (va_wsS RX2 33 yX2_isIn wsX2_isIn) := goodIn_app (goodIn_of _ (by decide +kernel)) ggX2_write_X2_isIn
set_option maxRecDepth 20000 in
theorem ggX2_write_X2_tr : GoodIn wsX2_write wsX2_tr := goodIn_r _ [18, 19, 24, 25, 26, 27, 28, 29, 30] (by decide +kernel) (by decide +kernel)
set_option maxRecDepth 20000 in
theorem gX2_write_X2_tr : GoodIn wsX2_write (wsV RX2 43 RX2 yX2_tr wsX2_tr) := goodIn_app (goodIn_of _ (by decide +kernel)) ggX2_write_X2_tr
set_option maxRecDepth 20000 in
theorem ggX2_write_X2_let : GoodIn wsX2_write wsX2_let := goodIn_r _ [23, 19, 24, 25, 26, 27, 28, 29, 30] (by decide +kernel) (by decide +kernel)
set_option maxRecDepth 20000 in
theorem gX2_write_X2_let : GoodIn wsX2_write (wsV RX2 63 RX2 yX2_let wsX2_let) := goodIn_app (goodIn_of _ (by decide +kernel)) ggX2_write_X2_let
theorem dX2_write_0 : decode cX2_write 0 = .ok (.aload_n 0, 1) := by decide +kernel
theorem dX2_write_1 : decode cX2_write 1 = .ok (.iconst 0, 1) := by decide +kernel
theorem dX2_write_2 : decode cX2_write 2 = .ok (.putfield 26, 3) := by decide +kernel
theorem dX2_write_5 : decode cX2_write 5 = .ok (.aload_n 0, 1) := by decide +kernel
theorem dX2_write_6 : decode cX2_write 6 = .ok (.iload_n 1, 1) := by decide +kernel
theorem dX2_write_7 : decode cX2_write 7 = .ok (.invokevirtual 105, 3) := by decide +kernel
theorem dX2_write_10 : decode cX2_write 10 = .ok (.ifCond .ne 9, 3) := by decide +kernel
theorem dX2_write_13 : decode cX2_write 13 = .ok (.aload_n 0, 1) := by decide +kernel
theorem dX2_write_14 : decode cX2_write 14 = .ok (.iconst 1, 1) := by decide +kernel
theorem dX2_write_15 : decode cX2_write 15 = .ok (.invokevirtual 99, 3) := by decide +kernel
theorem dX2_write_18 : decode cX2_write 18 = .ok (.ireturn, 1) := by decide +kernel
theorem dX2_write_19 : decode cX2_write 19 = .ok (.iload_n 3, 1) := by decide +kernel
theorem dX2_write_20 : decode cX2_write 20 = .ok (.iload 4, 2) := by decide +kernel
theorem dX2_write_22 : decode cX2_write 22 = .ok (.iload 5, 2) := by decide +kernel
theorem dX2_write_24 : decode cX2_write 24 = .ok (.invokestatic 33, 3) := by decide +kernel
theorem dX2_write_27 : decode cX2_write 27 = .ok (.ifCond .ne 9, 3) := by decide +kernel
theorem dX2_write_30 : decode cX2_write 30 = .ok (.aload_n 0, 1) := by decide +kernel
theorem dX2_write_31 : decode cX2_write 31 = .ok (.iconst 2, 1) := by decide +kernel
theorem dX2_write_32 : decode cX2_write 32 = .ok (.invokevirtual 99, 3) := by decide +kernel
theorem dX2_write_35 : decode cX2_write 35 = .ok (.ireturn, 1) := by decide +kernel
theorem dX2_write_36 : decode cX2_write 36 = .ok (.aload_n 0, 1) := by decide +kernel
theorem dX2_write_37 : decode cX2_write 37 = .ok (.iload_n 1, 1) := by decide +kernel
theorem dX2_write_38 : decode cX2_write 38 = .ok (.iconst 0, 1) := by decide +kernel
theorem dX2_write_39 : decode cX2_write 39 = .ok (.invokevirtual 43, 3) := by decide +kernel
theorem dX2_write_42 : decode cX2_write 42 = .ok (.ifCond .eq 9, 3) := by decide +kernel
theorem dX2_write_45 : decode cX2_write 45 = .ok (.aload_n 0, 1) := by decide +kernel
theorem dX2_write_46 : decode cX2_write 46 = .ok (.iconst 3, 1) := by decide +kernel
theorem dX2_write_47 : decode cX2_write 47 = .ok (.invokevirtual 99, 3) := by decide +kernel
theorem dX2_write_50 : decode cX2_write 50 = .ok (.ireturn, 1) := by decide +kernel
theorem dX2_write_51 : decode cX2_write 51 = .ok (.aload_n 0, 1) := by decide +kernel
theorem dX2_write_52 : decode cX2_write 52 = .ok (.iload_n 1, 1) := by decide +kernel
theorem dX2_write_53 : decode cX2_write 53 = .ok (.iload_n 2, 1) := by decide +kernel
theorem dX2_write_54 : decode cX2_write 54 = .ok (.invokevirtual 43, 3) := by decide +kernel
theorem dX2_write_57 : decode cX2_write 57 = .ok (.istore 6, 2) := by decide +kernel
theorem dX2_write_59 : decode cX2_write 59 = .ok (.aload_n 0, 1) := by decide +kernel
theorem dX2_write_60 : decode cX2_write 60 = .ok (.iload_n 1, 1) := by decide +kernel
theorem dX2_write_61 : decode cX2_write 61 = .ok (.iload_n 2, 1) := by decide +kernel
theorem dX2_write_62 : decode cX2_write 62 = .ok (.iload_n 3, 1) := by decide +kernel
theorem dX2_write_63 : decode cX2_write 63 = .ok (.invokevirtual 63, 3) := by decide +kernel
theorem dX2_write_66 : decode cX2_write 66 = .ok (.iload 6, 2) := by decide +kernel
theorem dX2_write_68 : decode cX2_write 68 = .ok (.ireturn, 1) := by decide +kernel
set_option maxRecDepth 20000 in
theorem ggX2_declare_X2_write : GoodIn wsX2_declare wsX2_write := goodIn_r _ [5, 6, 7, 8, 9, 4, 10, 11, 12, 13, 14, 15, 16, 17, 18, 19, 20, 21, 22, 23, 24, 25, 26, 27, 28, 29, 30, 31, 32, 33, 34] (by decide +kernel) (by decide +kernel)
set_option maxRecDepth 20000 in
theorem gX2_declare_X2_write : GoodIn wsX2_declare (wsV RX2 109 RX2 yX2_write wsX2_write) := goodIn_app (goodIn_of _ (by decide +kernel)) ggX2_declare_X2_write
theorem dX2_declare_0 : decode cX2_declare 0 = .ok (.aload_n 0, 1) := by decide +kernel
theorem dX2_declare_1 : decode cX2_declare 1 = .ok (.iload_n 1, 1) := by decide +kernel
theorem dX2_declare_2 : decode cX2_declare 2 = .ok (.iconst 2, 1) := by decide +kernel
theorem dX2_declare_3 : decode cX2_declare 3 = .ok (.iload_n 2, 1) := by decide +kernel
theorem dX2_declare_4 : decode cX2_declare 4 = .ok (.iconst 0, 1) := by decide +kernel
theorem dX2_declare_5 : decode cX2_declare 5 = .ok (.bipush 9, 2) := by decide +kernel
theorem dX2_declare_7 : decode cX2_declare 7 = .ok (.invokevirtual 109, 3) := by decide +kernel
theorem dX2_declare_10 : decode cX2_declare 10 = .ok (.ireturn, 1) := by decide +kernel
set_option maxRecDepth 20000 in
theorem ggX2_sing_X2_write : GoodIn wsX2_sing wsX2_write := goodIn_r _ [5, 6, 7, 8, 9, 4, 10, 11, 12, 13, 14, 15, 16, 17, 18, 19, 20, 21, 22, 23, 24, 25, 26, 27, 28, 29, 30, 31, 32, 33, 34] (by decide +kernel) (by decide +kernel)
set_option maxRecDepth 20000 in
theorem gX2_sing_X2_write : GoodIn wsX2_sing (wsV RX2 109 RX2 yX2_write wsX2_write) := goodIn_app (goodIn_of _ (by decide +kernel)) ggX2_sing_X2_write
theorem dX2_sing_0 : decode cX2_sing 0 = .ok (.aload_n 0, 1) := by decide +kernel
theorem dX2_sing_1 : decode cX2_sing 1 = .ok (.iload_n 1, 1) := by decide +kernel
theorem dX2_sing_2 : decode cX2_sing 2 = .ok (.iconst 1, 1) := by decide +kernel
theorem dX2_sing_3 : decode cX2_sing 3 = .ok (.iload_n 2, 1) := by decide +kernel
theorem dX2_sing_4 : decode cX2_sing 4 = .ok (.iconst 1, 1) := by decide +kernel
theorem dX2_sing_5 : decode cX2_sing 5 = .ok (.bipush 60, 2) := by decide +kernel
theorem dX2_sing_7 : decode cX2_sing 7 = .ok (.invokevirtual 109, 3) := by decide +kernel
theorem dX2_sing_10 : decode cX2_sing 10 = .ok (.ireturn, 1) := by decide +kernel
set_option maxRecDepth 20000 in
theorem ggX2_wake_X2_isGuard : GoodIn wsX2_wake wsX2_isGuard := goodIn_r _ [6, 7, 8, 9, 5, 10, 23, 24, 25, 26, 27, 28, 29] (by decide +kernel) (by decide +kernel)
set_option maxRecDepth 20000 in
theorem gX2_wake_X2_isGuard : GoodIn wsX2_wake (wsV RX2 113 RX2 yX2_isGuard wsX2_isGuard) := goodIn_app (goodIn_of _ (by decide +kernel)) ggX2_wake_X2_isGuard
set_option maxRecDepth 20000 in
theorem ggX2_wake_X2_fail : GoodIn wsX2_wake wsX2_fail := goodIn_r _ [14, 1, 23, 24, 25, 26, 27, 28, 29] (by decide +kernel) (by decide +kernel)
set_option maxRecDepth 20000 in
theorem gX2_wake_X2_fail : GoodIn wsX2_wake (wsV RX2 99 RX2 yX2_fail wsX2_fail) := goodIn_app (goodIn_of _ (by decide +kernel)) ggX2_wake_X2_fail
set_option maxRecDepth 20000 in
theorem ggX2_wake_X2_gu : GoodIn wsX2_wake wsX2_gu := goodIn_r _ [18, 7, 23, 24, 25, 26, 27, 28, 29] (by decide +kernel) (by decide +kernel)
set_option maxRecDepth 20000 in
theorem gX2_wake_X2_gu : GoodIn wsX2_wake (wsV RX2 56 RX2 yX2_gu wsX2_gu) := goodIn_app (goodIn_of _ (by decide +kernel)) ggX2_wake_X2_gu
set_option maxRecDepth 20000 in
theorem ggX2_wake_X2_post : GoodIn wsX2_wake wsX2_post := goodIn_r _ [22, 7, 23, 24, 25, 26, 27, 28, 29] (by decide +kernel) (by decide +kernel)
set_option maxRecDepth 20000 in
theorem gX2_wake_X2_post : GoodIn wsX2_wake (wsV RX2 67 RX2 yX2_post wsX2_post) := goodIn_app (goodIn_of _ (by decide +kernel)) ggX2_wake_X2_post
theorem dX2_wake_0 : decode cX2_wake 0 = .ok (.aload_n 0, 1) := by decide +kernel
theorem dX2_wake_1 : decode cX2_wake 1 = .ok (.iconst 0, 1) := by decide +kernel
theorem dX2_wake_2 : decode cX2_wake 2 = .ok (.putfield 26, 3) := by decide +kernel
theorem dX2_wake_5 : decode cX2_wake 5 = .ok (.aload_n 0, 1) := by decide +kernel
theorem dX2_wake_6 : decode cX2_wake 6 = .ok (.iload_n 1, 1) := by decide +kernel
theorem dX2_wake_7 : decode cX2_wake 7 = .ok (.invokevirtual 113, 3) := by decide +kernel
theorem dX2_wake_10 : decode cX2_wake 10 = .ok (.ifCond .ne 9, 3) := by decide +kernel
theorem dX2_wake_13 : decode cX2_wake 13 = .ok (.aload_n 0, 1) := by decide +kernel
theorem dX2_wake_14 : decode cX2_wake 14 = .ok (.iconst 1, 1) := by decide +kernel
theorem dX2_wake_15 : decode cX2_wake 15 = .ok (.invokevirtual 99, 3) := by decide +kernel
theorem dX2_wake_18 : decode cX2_wake 18 = .ok (.ireturn, 1) := by decide +kernel
theorem dX2_wake_19 : decode cX2_wake 19 = .ok (.aload_n 0, 1) := by decide +kernel
theorem dX2_wake_20 : decode cX2_wake 20 = .ok (.iload_n 1, 1) := by decide +kernel
theorem dX2_wake_21 : decode cX2_wake 21 = .ok (.iconst 0, 1) := by decide +kernel
theorem dX2_wake_22 : decode cX2_wake 22 = .ok (.invokevirtual 56, 3) := by decide +kernel
theorem dX2_wake_25 : decode cX2_wake 25 = .ok (.istore_n 2, 1) := by decide +kernel
theorem dX2_wake_26 : decode cX2_wake 26 = .ok (.aload_n 0, 1) := by decide +kernel
theorem dX2_wake_27 : decode cX2_wake 27 = .ok (.iload_n 1, 1) := by decide +kernel
theorem dX2_wake_28 : decode cX2_wake 28 = .ok (.iconst 0, 1) := by decide +kernel
theorem dX2_wake_29 : decode cX2_wake 29 = .ok (.bipush 9, 2) := by decide +kernel
theorem dX2_wake_31 : decode cX2_wake 31 = .ok (.invokevirtual 67, 3) := by decide +kernel
theorem dX2_wake_34 : decode cX2_wake 34 = .ok (.iload_n 2, 1) := by decide +kernel
theorem dX2_wake_35 : decode cX2_wake 35 = .ok (.ireturn, 1) := by decide +kernel
set_option maxRecDepth 20000 in
theorem ggX2_pass_X2_isIn : GoodIn wsX2_pass wsX2_isIn := goodIn_r _ [5] (by decide +kernel) (by decide +kernel)
set_option maxRecDepth 20000 in
theorem gX2_pass_X2_isIn : GoodIn wsX2_pass (va_wsS RX2 33 yX2_isIn wsX2_isIn) := goodIn_app (goodIn_of _ (by decide +kernel)) ggX2_pass_X2_isIn
set_option maxRecDepth 20000 in
theorem ggX2_pass_X2_fail : GoodIn wsX2_pass wsX2_fail := goodIn_r _ [9, 1, 86, 87, 88, 89, 90, 91, 92] (by decide +kernel) (by decide +kernel)
set_option maxRecDepth 20000 in
theorem gX2_pass_X2_fail : GoodIn wsX2_pass (wsV RX2 99 RX2 yX2_fail wsX2_fail) := goodIn_app (goodIn_of _ (by decide +kernel)) ggX2_pass_X2_fail
set_option maxRecDepth 20000 in
theorem ggX2_pass_X2_count : GoodIn wsX2_pass wsX2_count := goodIn_r _ [13, 14, 15, 16, 17, 4, 18, 19, 86, 87, 88, 89, 90, 91, 92] (by decide +kernel) (by decide +kernel)
set_option maxRecDepth 20000 in
theorem gX2_pass_X2_count : GoodIn wsX2_pass (wsV RX2 116 RX2 yX2_count wsX2_count) := goodIn_app (goodIn_of _ (by decide +kernel)) ggX2_pass_X2_count
set_option maxRecDepth 20000 in
theorem ggX2_pass_X2_minutesOn : GoodIn wsX2_pass wsX2_minutesOn := goodIn_r _ [23, 24, 25, 26, 4, 27, 19, 28, 14, 29, 30, 31, 32, 33, 34, 35, 36, 15, 16, 17, 18, 37, 38, 39, 40, 41, 42, 43, 44, 45, 46, 47, 48, 49, 50, 51, 52, 53, 54, 55, 56, 57, 58, 59, 60, 61, 62, 63, 64, 65, 66, 67, 68, 69, 70, 71, 72, 73, 74, 75, 76, 77, 78, 79, 80, 81, 82, 83, 84, 85, 86, 87, 88, 89, 90, 91, 92] (by decide +kernel) (by decide +kernel)
set_option maxRecDepth 20000 in
theorem gX2_pass_X2_minutesOn : GoodIn wsX2_pass (wsV RX2 119 RX2 yX2_minutesOn wsX2_minutesOn) := goodIn_app (goodIn_of _ (by decide +kernel)) ggX2_pass_X2_minutesOn
theorem dX2_pass_0 : decode cX2_pass 0 = .ok (.aload_n 0, 1) := by decide +kernel
theorem dX2_pass_1 : decode cX2_pass 1 = .ok (.iconst 0, 1) := by decide +kernel
theorem dX2_pass_2 : decode cX2_pass 2 = .ok (.putfield 26, 3) := by decide +kernel
theorem dX2_pass_5 : decode cX2_pass 5 = .ok (.iload_n 1, 1) := by decide +kernel
theorem dX2_pass_6 : decode cX2_pass 6 = .ok (.iconst 1, 1) := by decide +kernel
theorem dX2_pass_7 : decode cX2_pass 7 = .ok (.bipush 60, 2) := by decide +kernel
theorem dX2_pass_9 : decode cX2_pass 9 = .ok (.invokestatic 33, 3) := by decide +kernel
theorem dX2_pass_12 : decode cX2_pass 12 = .ok (.ifCond .ne 9, 3) := by decide +kernel
theorem dX2_pass_15 : decode cX2_pass 15 = .ok (.aload_n 0, 1) := by decide +kernel
theorem dX2_pass_16 : decode cX2_pass 16 = .ok (.iconst 1, 1) := by decide +kernel
theorem dX2_pass_17 : decode cX2_pass 17 = .ok (.invokevirtual 99, 3) := by decide +kernel
theorem dX2_pass_20 : decode cX2_pass 20 = .ok (.ireturn, 1) := by decide +kernel
theorem dX2_pass_21 : decode cX2_pass 21 = .ok (.aload_n 0, 1) := by decide +kernel
theorem dX2_pass_22 : decode cX2_pass 22 = .ok (.iconst 3, 1) := by decide +kernel
theorem dX2_pass_23 : decode cX2_pass 23 = .ok (.invokevirtual 116, 3) := by decide +kernel
theorem dX2_pass_26 : decode cX2_pass 26 = .ok (.istore_n 2, 1) := by decide +kernel
theorem dX2_pass_27 : decode cX2_pass 27 = .ok (.aload_n 0, 1) := by decide +kernel
theorem dX2_pass_28 : decode cX2_pass 28 = .ok (.iload_n 1, 1) := by decide +kernel
theorem dX2_pass_29 : decode cX2_pass 29 = .ok (.invokevirtual 119, 3) := by decide +kernel
theorem dX2_pass_32 : decode cX2_pass 32 = .ok (.aload_n 0, 1) := by decide +kernel
theorem dX2_pass_33 : decode cX2_pass 33 = .ok (.iconst 3, 1) := by decide +kernel
theorem dX2_pass_34 : decode cX2_pass 34 = .ok (.invokevirtual 116, 3) := by decide +kernel
theorem dX2_pass_37 : decode cX2_pass 37 = .ok (.iload_n 2, 1) := by decide +kernel
theorem dX2_pass_38 : decode cX2_pass 38 = .ok (.isub, 1) := by decide +kernel
theorem dX2_pass_39 : decode cX2_pass 39 = .ok (.ireturn, 1) := by decide +kernel
set_option maxRecDepth 20000 in
theorem ggX2_minute_X2_told : GoodIn wsX2_minute wsX2_told := goodIn_r _ [6, 7, 8, 9, 10, 11, 12, 13, 14] (by decide +kernel) (by decide +kernel)
set_option maxRecDepth 20000 in
theorem gX2_minute_X2_told : GoodIn wsX2_minute (wsV RX2 122 RX2 yX2_told wsX2_told) := goodIn_app (goodIn_of _ (by decide +kernel)) ggX2_minute_X2_told
theorem dX2_minute_0 : decode cX2_minute 0 = .ok (.aload_n 0, 1) := by decide +kernel
theorem dX2_minute_1 : decode cX2_minute 1 = .ok (.aload_n 0, 1) := by decide +kernel
theorem dX2_minute_2 : decode cX2_minute 2 = .ok (.getfield 16, 3) := by decide +kernel
theorem dX2_minute_5 : decode cX2_minute 5 = .ok (.iconst 0, 1) := by decide +kernel
theorem dX2_minute_6 : decode cX2_minute 6 = .ok (.iaload, 1) := by decide +kernel
theorem dX2_minute_7 : decode cX2_minute 7 = .ok (.invokevirtual 122, 3) := by decide +kernel
theorem dX2_minute_10 : decode cX2_minute 10 = .ok (.ireturn, 1) := by decide +kernel
set_option maxRecDepth 20000 in
theorem ggX2_travellers_X2_told : GoodIn wsX2_travellers wsX2_told := goodIn_r _ [6, 7, 8, 9, 10, 11, 12, 13, 14] (by decide +kernel) (by decide +kernel)
set_option maxRecDepth 20000 in
theorem gX2_travellers_X2_told : GoodIn wsX2_travellers (wsV RX2 122 RX2 yX2_told wsX2_told) := goodIn_app (goodIn_of _ (by decide +kernel)) ggX2_travellers_X2_told
theorem dX2_travellers_0 : decode cX2_travellers 0 = .ok (.aload_n 0, 1) := by decide +kernel
theorem dX2_travellers_1 : decode cX2_travellers 1 = .ok (.aload_n 0, 1) := by decide +kernel
theorem dX2_travellers_2 : decode cX2_travellers 2 = .ok (.getfield 30, 3) := by decide +kernel
theorem dX2_travellers_5 : decode cX2_travellers 5 = .ok (.invokevirtual 122, 3) := by decide +kernel
theorem dX2_travellers_8 : decode cX2_travellers 8 = .ok (.ireturn, 1) := by decide +kernel
set_option maxRecDepth 20000 in
theorem ggX2_waiting_X2_count : GoodIn wsX2_waiting wsX2_count := goodIn_r _ [5, 6, 7, 8, 9, 4, 10, 11, 17, 18, 19, 20, 21, 22, 23] (by decide +kernel) (by decide +kernel)
set_option maxRecDepth 20000 in
theorem gX2_waiting_X2_count : GoodIn wsX2_waiting (wsV RX2 116 RX2 yX2_count wsX2_count) := goodIn_app (goodIn_of _ (by decide +kernel)) ggX2_waiting_X2_count
set_option maxRecDepth 20000 in
theorem ggX2_waiting_X2_told : GoodIn wsX2_waiting wsX2_told := goodIn_r _ [15, 16, 17, 18, 19, 20, 21, 22, 23] (by decide +kernel) (by decide +kernel)
set_option maxRecDepth 20000 in
theorem gX2_waiting_X2_told : GoodIn wsX2_waiting (wsV RX2 122 RX2 yX2_told wsX2_told) := goodIn_app (goodIn_of _ (by decide +kernel)) ggX2_waiting_X2_told
theorem dX2_waiting_0 : decode cX2_waiting 0 = .ok (.aload_n 0, 1) := by decide +kernel
theorem dX2_waiting_1 : decode cX2_waiting 1 = .ok (.aload_n 0, 1) := by decide +kernel
theorem dX2_waiting_2 : decode cX2_waiting 2 = .ok (.iconst 0, 1) := by decide +kernel
theorem dX2_waiting_3 : decode cX2_waiting 3 = .ok (.invokevirtual 116, 3) := by decide +kernel
theorem dX2_waiting_6 : decode cX2_waiting 6 = .ok (.invokevirtual 122, 3) := by decide +kernel
theorem dX2_waiting_9 : decode cX2_waiting 9 = .ok (.ireturn, 1) := by decide +kernel
set_option maxRecDepth 20000 in
theorem ggX2_asleep_X2_count : GoodIn wsX2_asleep wsX2_count := goodIn_r _ [5, 6, 7, 8, 9, 4, 10, 11, 17, 18, 19, 20, 21, 22, 23] (by decide +kernel) (by decide +kernel)
set_option maxRecDepth 20000 in
theorem gX2_asleep_X2_count : GoodIn wsX2_asleep (wsV RX2 116 RX2 yX2_count wsX2_count) := goodIn_app (goodIn_of _ (by decide +kernel)) ggX2_asleep_X2_count
set_option maxRecDepth 20000 in
theorem ggX2_asleep_X2_told : GoodIn wsX2_asleep wsX2_told := goodIn_r _ [15, 16, 17, 18, 19, 20, 21, 22, 23] (by decide +kernel) (by decide +kernel)
set_option maxRecDepth 20000 in
theorem gX2_asleep_X2_told : GoodIn wsX2_asleep (wsV RX2 122 RX2 yX2_told wsX2_told) := goodIn_app (goodIn_of _ (by decide +kernel)) ggX2_asleep_X2_told
theorem dX2_asleep_0 : decode cX2_asleep 0 = .ok (.aload_n 0, 1) := by decide +kernel
theorem dX2_asleep_1 : decode cX2_asleep 1 = .ok (.aload_n 0, 1) := by decide +kernel
theorem dX2_asleep_2 : decode cX2_asleep 2 = .ok (.iconst 3, 1) := by decide +kernel
theorem dX2_asleep_3 : decode cX2_asleep 3 = .ok (.invokevirtual 116, 3) := by decide +kernel
theorem dX2_asleep_6 : decode cX2_asleep 6 = .ok (.invokevirtual 122, 3) := by decide +kernel
theorem dX2_asleep_9 : decode cX2_asleep 9 = .ok (.ireturn, 1) := by decide +kernel
set_option maxRecDepth 20000 in
theorem ggX2_sentBack_X2_count : GoodIn wsX2_sentBack wsX2_count := goodIn_r _ [5, 6, 7, 8, 9, 4, 10, 11, 17, 18, 19, 20, 21, 22, 23] (by decide +kernel) (by decide +kernel)
set_option maxRecDepth 20000 in
theorem gX2_sentBack_X2_count : GoodIn wsX2_sentBack (wsV RX2 116 RX2 yX2_count wsX2_count) := goodIn_app (goodIn_of _ (by decide +kernel)) ggX2_sentBack_X2_count
set_option maxRecDepth 20000 in
theorem ggX2_sentBack_X2_told : GoodIn wsX2_sentBack wsX2_told := goodIn_r _ [15, 16, 17, 18, 19, 20, 21, 22, 23] (by decide +kernel) (by decide +kernel)
set_option maxRecDepth 20000 in
theorem gX2_sentBack_X2_told : GoodIn wsX2_sentBack (wsV RX2 122 RX2 yX2_told wsX2_told) := goodIn_app (goodIn_of _ (by decide +kernel)) ggX2_sentBack_X2_told
theorem dX2_sentBack_0 : decode cX2_sentBack 0 = .ok (.aload_n 0, 1) := by decide +kernel
theorem dX2_sentBack_1 : decode cX2_sentBack 1 = .ok (.aload_n 0, 1) := by decide +kernel
theorem dX2_sentBack_2 : decode cX2_sentBack 2 = .ok (.iconst 4, 1) := by decide +kernel
theorem dX2_sentBack_3 : decode cX2_sentBack 3 = .ok (.invokevirtual 116, 3) := by decide +kernel
theorem dX2_sentBack_6 : decode cX2_sentBack 6 = .ok (.invokevirtual 122, 3) := by decide +kernel
theorem dX2_sentBack_9 : decode cX2_sentBack 9 = .ok (.ireturn, 1) := by decide +kernel
set_option maxRecDepth 20000 in
theorem ggX2_expired_X2_told : GoodIn wsX2_expired wsX2_told := goodIn_r _ [6, 7, 8, 9, 10, 11, 12, 13, 14] (by decide +kernel) (by decide +kernel)
set_option maxRecDepth 20000 in
theorem gX2_expired_X2_told : GoodIn wsX2_expired (wsV RX2 122 RX2 yX2_told wsX2_told) := goodIn_app (goodIn_of _ (by decide +kernel)) ggX2_expired_X2_told
theorem dX2_expired_0 : decode cX2_expired 0 = .ok (.aload_n 0, 1) := by decide +kernel
theorem dX2_expired_1 : decode cX2_expired 1 = .ok (.aload_n 0, 1) := by decide +kernel
theorem dX2_expired_2 : decode cX2_expired 2 = .ok (.getfield 16, 3) := by decide +kernel
theorem dX2_expired_5 : decode cX2_expired 5 = .ok (.iconst 1, 1) := by decide +kernel
theorem dX2_expired_6 : decode cX2_expired 6 = .ok (.iaload, 1) := by decide +kernel
theorem dX2_expired_7 : decode cX2_expired 7 = .ok (.invokevirtual 122, 3) := by decide +kernel
theorem dX2_expired_10 : decode cX2_expired 10 = .ok (.ireturn, 1) := by decide +kernel
set_option maxRecDepth 20000 in
theorem ggX2_paid_X2_told : GoodIn wsX2_paid wsX2_told := goodIn_r _ [6, 7, 8, 9, 10, 11, 12, 13, 14] (by decide +kernel) (by decide +kernel)
set_option maxRecDepth 20000 in
theorem gX2_paid_X2_told : GoodIn wsX2_paid (wsV RX2 122 RX2 yX2_told wsX2_told) := goodIn_app (goodIn_of _ (by decide +kernel)) ggX2_paid_X2_told
theorem dX2_paid_0 : decode cX2_paid 0 = .ok (.aload_n 0, 1) := by decide +kernel
theorem dX2_paid_1 : decode cX2_paid 1 = .ok (.aload_n 0, 1) := by decide +kernel
theorem dX2_paid_2 : decode cX2_paid 2 = .ok (.getfield 16, 3) := by decide +kernel
theorem dX2_paid_5 : decode cX2_paid 5 = .ok (.iconst 2, 1) := by decide +kernel
theorem dX2_paid_6 : decode cX2_paid 6 = .ok (.iaload, 1) := by decide +kernel
theorem dX2_paid_7 : decode cX2_paid 7 = .ok (.invokevirtual 122, 3) := by decide +kernel
theorem dX2_paid_10 : decode cX2_paid 10 = .ok (.ireturn, 1) := by decide +kernel
set_option maxRecDepth 20000 in
theorem ggX2_noise_X2_loud : GoodIn wsX2_noise wsX2_loud := goodIn_r _ [5, 6, 7, 8, 9, 10, 4, 11, 12, 18, 19, 20, 21, 22, 23, 24] (by decide +kernel) (by decide +kernel)
set_option maxRecDepth 20000 in
theorem gX2_noise_X2_loud : GoodIn wsX2_noise (wsV RX2 59 RX2 yX2_loud wsX2_loud) := goodIn_app (goodIn_of _ (by decide +kernel)) ggX2_noise_X2_loud
set_option maxRecDepth 20000 in
theorem ggX2_noise_X2_told : GoodIn wsX2_noise wsX2_told := goodIn_r _ [16, 17, 18, 19, 20, 21, 22, 23, 24] (by decide +kernel) (by decide +kernel)
set_option maxRecDepth 20000 in
theorem gX2_noise_X2_told : GoodIn wsX2_noise (wsV RX2 122 RX2 yX2_told wsX2_told) := goodIn_app (goodIn_of _ (by decide +kernel)) ggX2_noise_X2_told
theorem dX2_noise_0 : decode cX2_noise 0 = .ok (.aload_n 0, 1) := by decide +kernel
theorem dX2_noise_1 : decode cX2_noise 1 = .ok (.aload_n 0, 1) := by decide +kernel
theorem dX2_noise_2 : decode cX2_noise 2 = .ok (.invokevirtual 59, 3) := by decide +kernel
theorem dX2_noise_5 : decode cX2_noise 5 = .ok (.invokevirtual 122, 3) := by decide +kernel
theorem dX2_noise_8 : decode cX2_noise 8 = .ok (.ireturn, 1) := by decide +kernel
set_option maxRecDepth 20000 in
theorem ggX2_nextInLine_X2_first : GoodIn wsX2_nextInLine wsX2_first := goodIn_r _ [5, 6, 7, 8, 9, 4, 10, 11, 17, 18, 19, 20, 21, 22, 23] (by decide +kernel) (by decide +kernel)
set_option maxRecDepth 20000 in
theorem gX2_nextInLine_X2_first : GoodIn wsX2_nextInLine (wsV RX2 74 RX2 yX2_first wsX2_first) := goodIn_app (goodIn_of _ (by decide +kernel)) ggX2_nextInLine_X2_first
set_option maxRecDepth 20000 in
theorem ggX2_nextInLine_X2_told : GoodIn wsX2_nextInLine wsX2_told := goodIn_r _ [15, 16, 17, 18, 19, 20, 21, 22, 23] (by decide +kernel) (by decide +kernel)
set_option maxRecDepth 20000 in
theorem gX2_nextInLine_X2_told : GoodIn wsX2_nextInLine (wsV RX2 122 RX2 yX2_told wsX2_told) := goodIn_app (goodIn_of _ (by decide +kernel)) ggX2_nextInLine_X2_told
theorem dX2_nextInLine_0 : decode cX2_nextInLine 0 = .ok (.aload_n 0, 1) := by decide +kernel
theorem dX2_nextInLine_1 : decode cX2_nextInLine 1 = .ok (.aload_n 0, 1) := by decide +kernel
theorem dX2_nextInLine_2 : decode cX2_nextInLine 2 = .ok (.invokevirtual 74, 3) := by decide +kernel
theorem dX2_nextInLine_5 : decode cX2_nextInLine 5 = .ok (.invokevirtual 122, 3) := by decide +kernel
theorem dX2_nextInLine_8 : decode cX2_nextInLine 8 = .ok (.ireturn, 1) := by decide +kernel
set_option maxRecDepth 20000 in
theorem ggX2_stateOf_X2_isTraveller : GoodIn wsX2_stateOf wsX2_isTraveller := goodIn_r _ [6, 7, 8, 9, 5, 10, 20, 21, 22, 23, 24, 25, 26] (by decide +kernel) (by decide +kernel)
set_option maxRecDepth 20000 in
theorem gX2_stateOf_X2_isTraveller : GoodIn wsX2_stateOf (wsV RX2 105 RX2 yX2_isTraveller wsX2_isTraveller) := goodIn_app (goodIn_of _ (by decide +kernel)) ggX2_stateOf_X2_isTraveller
set_option maxRecDepth 20000 in
theorem ggX2_stateOf_X2_tr : GoodIn wsX2_stateOf wsX2_tr := goodIn_r _ [14, 15, 20, 21, 22, 23, 24, 25, 26] (by decide +kernel) (by decide +kernel)
set_option maxRecDepth 20000 in
theorem gX2_stateOf_X2_tr : GoodIn wsX2_stateOf (wsV RX2 43 RX2 yX2_tr wsX2_tr) := goodIn_app (goodIn_of _ (by decide +kernel)) ggX2_stateOf_X2_tr
set_option maxRecDepth 20000 in
theorem ggX2_stateOf_X2_fail : GoodIn wsX2_stateOf wsX2_fail := goodIn_r _ [19, 1, 20, 21, 22, 23, 24, 25, 26] (by decide +kernel) (by decide +kernel)
set_option maxRecDepth 20000 in
theorem gX2_stateOf_X2_fail : GoodIn wsX2_stateOf (wsV RX2 99 RX2 yX2_fail wsX2_fail) := goodIn_app (goodIn_of _ (by decide +kernel)) ggX2_stateOf_X2_fail
theorem dX2_stateOf_0 : decode cX2_stateOf 0 = .ok (.aload_n 0, 1) := by decide +kernel
theorem dX2_stateOf_1 : decode cX2_stateOf 1 = .ok (.iconst 0, 1) := by decide +kernel
theorem dX2_stateOf_2 : decode cX2_stateOf 2 = .ok (.putfield 26, 3) := by decide +kernel
theorem dX2_stateOf_5 : decode cX2_stateOf 5 = .ok (.aload_n 0, 1) := by decide +kernel
theorem dX2_stateOf_6 : decode cX2_stateOf 6 = .ok (.iload_n 1, 1) := by decide +kernel
theorem dX2_stateOf_7 : decode cX2_stateOf 7 = .ok (.invokevirtual 105, 3) := by decide +kernel
theorem dX2_stateOf_10 : decode cX2_stateOf 10 = .ok (.ifCond .eq 12, 3) := by decide +kernel
theorem dX2_stateOf_13 : decode cX2_stateOf 13 = .ok (.aload_n 0, 1) := by decide +kernel
theorem dX2_stateOf_14 : decode cX2_stateOf 14 = .ok (.iload_n 1, 1) := by decide +kernel
theorem dX2_stateOf_15 : decode cX2_stateOf 15 = .ok (.iconst 0, 1) := by decide +kernel
theorem dX2_stateOf_16 : decode cX2_stateOf 16 = .ok (.invokevirtual 43, 3) := by decide +kernel
theorem dX2_stateOf_19 : decode cX2_stateOf 19 = .ok (.goto 8, 3) := by decide +kernel
theorem dX2_stateOf_22 : decode cX2_stateOf 22 = .ok (.aload_n 0, 1) := by decide +kernel
theorem dX2_stateOf_23 : decode cX2_stateOf 23 = .ok (.iconst 1, 1) := by decide +kernel
theorem dX2_stateOf_24 : decode cX2_stateOf 24 = .ok (.invokevirtual 99, 3) := by decide +kernel
theorem dX2_stateOf_27 : decode cX2_stateOf 27 = .ok (.ireturn, 1) := by decide +kernel
set_option maxRecDepth 20000 in
theorem ggX2_hiddenOf_X2_isTraveller : GoodIn wsX2_hiddenOf wsX2_isTraveller := goodIn_r _ [6, 7, 8, 9, 5, 10, 29, 30, 31, 32, 33, 34, 35] (by decide +kernel) (by decide +kernel)
set_option maxRecDepth 20000 in
theorem gX2_hiddenOf_X2_isTraveller : GoodIn wsX2_hiddenOf (wsV RX2 105 RX2 yX2_isTraveller wsX2_isTraveller) := goodIn_app (goodIn_of _ (by decide +kernel)) ggX2_hiddenOf_X2_isTraveller
set_option maxRecDepth 20000 in
theorem ggX2_hiddenOf_X2_hidden : GoodIn wsX2_hiddenOf wsX2_hidden := goodIn_r _ [14, 15, 16, 17, 18, 19, 20, 21, 22, 5, 23, 24, 29, 30, 31, 32, 33, 34, 35] (by decide +kernel) (by decide +kernel)
set_option maxRecDepth 20000 in
theorem gX2_hiddenOf_X2_hidden : GoodIn wsX2_hiddenOf (wsV RX2 52 RX2 yX2_hidden wsX2_hidden) := goodIn_app (goodIn_of _ (by decide +kernel)) ggX2_hiddenOf_X2_hidden
set_option maxRecDepth 20000 in
theorem ggX2_hiddenOf_X2_fail : GoodIn wsX2_hiddenOf wsX2_fail := goodIn_r _ [28, 1, 29, 30, 31, 32, 33, 34, 35] (by decide +kernel) (by decide +kernel)
set_option maxRecDepth 20000 in
theorem gX2_hiddenOf_X2_fail : GoodIn wsX2_hiddenOf (wsV RX2 99 RX2 yX2_fail wsX2_fail) := goodIn_app (goodIn_of _ (by decide +kernel)) ggX2_hiddenOf_X2_fail
theorem dX2_hiddenOf_0 : decode cX2_hiddenOf 0 = .ok (.aload_n 0, 1) := by decide +kernel
theorem dX2_hiddenOf_1 : decode cX2_hiddenOf 1 = .ok (.iconst 0, 1) := by decide +kernel
theorem dX2_hiddenOf_2 : decode cX2_hiddenOf 2 = .ok (.putfield 26, 3) := by decide +kernel
theorem dX2_hiddenOf_5 : decode cX2_hiddenOf 5 = .ok (.aload_n 0, 1) := by decide +kernel
theorem dX2_hiddenOf_6 : decode cX2_hiddenOf 6 = .ok (.iload_n 1, 1) := by decide +kernel
theorem dX2_hiddenOf_7 : decode cX2_hiddenOf 7 = .ok (.invokevirtual 105, 3) := by decide +kernel
theorem dX2_hiddenOf_10 : decode cX2_hiddenOf 10 = .ok (.ifCond .eq 11, 3) := by decide +kernel
theorem dX2_hiddenOf_13 : decode cX2_hiddenOf 13 = .ok (.aload_n 0, 1) := by decide +kernel
theorem dX2_hiddenOf_14 : decode cX2_hiddenOf 14 = .ok (.iload_n 1, 1) := by decide +kernel
theorem dX2_hiddenOf_15 : decode cX2_hiddenOf 15 = .ok (.invokevirtual 52, 3) := by decide +kernel
theorem dX2_hiddenOf_18 : decode cX2_hiddenOf 18 = .ok (.goto 8, 3) := by decide +kernel
theorem dX2_hiddenOf_21 : decode cX2_hiddenOf 21 = .ok (.aload_n 0, 1) := by decide +kernel
theorem dX2_hiddenOf_22 : decode cX2_hiddenOf 22 = .ok (.iconst 1, 1) := by decide +kernel
theorem dX2_hiddenOf_23 : decode cX2_hiddenOf 23 = .ok (.invokevirtual 99, 3) := by decide +kernel
theorem dX2_hiddenOf_26 : decode cX2_hiddenOf 26 = .ok (.ireturn, 1) := by decide +kernel
set_option maxRecDepth 20000 in
theorem ggX2_lullabyOf_X2_isTraveller : GoodIn wsX2_lullabyOf wsX2_isTraveller := goodIn_r _ [6, 7, 8, 9, 5, 10, 20, 21, 22, 23, 24, 25, 26] (by decide +kernel) (by decide +kernel)
set_option maxRecDepth 20000 in
theorem gX2_lullabyOf_X2_isTraveller : GoodIn wsX2_lullabyOf (wsV RX2 105 RX2 yX2_isTraveller wsX2_isTraveller) := goodIn_app (goodIn_of _ (by decide +kernel)) ggX2_lullabyOf_X2_isTraveller
set_option maxRecDepth 20000 in
theorem ggX2_lullabyOf_X2_tr : GoodIn wsX2_lullabyOf wsX2_tr := goodIn_r _ [14, 15, 20, 21, 22, 23, 24, 25, 26] (by decide +kernel) (by decide +kernel)
set_option maxRecDepth 20000 in
theorem gX2_lullabyOf_X2_tr : GoodIn wsX2_lullabyOf (wsV RX2 43 RX2 yX2_tr wsX2_tr) := goodIn_app (goodIn_of _ (by decide +kernel)) ggX2_lullabyOf_X2_tr
set_option maxRecDepth 20000 in
theorem ggX2_lullabyOf_X2_fail : GoodIn wsX2_lullabyOf wsX2_fail := goodIn_r _ [19, 1, 20, 21, 22, 23, 24, 25, 26] (by decide +kernel) (by decide +kernel)
set_option maxRecDepth 20000 in
theorem gX2_lullabyOf_X2_fail : GoodIn wsX2_lullabyOf (wsV RX2 99 RX2 yX2_fail wsX2_fail) := goodIn_app (goodIn_of _ (by decide +kernel)) ggX2_lullabyOf_X2_fail
theorem dX2_lullabyOf_0 : decode cX2_lullabyOf 0 = .ok (.aload_n 0, 1) := by decide +kernel
theorem dX2_lullabyOf_1 : decode cX2_lullabyOf 1 = .ok (.iconst 0, 1) := by decide +kernel
theorem dX2_lullabyOf_2 : decode cX2_lullabyOf 2 = .ok (.putfield 26, 3) := by decide +kernel
theorem dX2_lullabyOf_5 : decode cX2_lullabyOf 5 = .ok (.aload_n 0, 1) := by decide +kernel
theorem dX2_lullabyOf_6 : decode cX2_lullabyOf 6 = .ok (.iload_n 1, 1) := by decide +kernel
theorem dX2_lullabyOf_7 : decode cX2_lullabyOf 7 = .ok (.invokevirtual 105, 3) := by decide +kernel
theorem dX2_lullabyOf_10 : decode cX2_lullabyOf 10 = .ok (.ifCond .eq 12, 3) := by decide +kernel
theorem dX2_lullabyOf_13 : decode cX2_lullabyOf 13 = .ok (.aload_n 0, 1) := by decide +kernel
theorem dX2_lullabyOf_14 : decode cX2_lullabyOf 14 = .ok (.iload_n 1, 1) := by decide +kernel
theorem dX2_lullabyOf_15 : decode cX2_lullabyOf 15 = .ok (.iconst 1, 1) := by decide +kernel
theorem dX2_lullabyOf_16 : decode cX2_lullabyOf 16 = .ok (.invokevirtual 43, 3) := by decide +kernel
theorem dX2_lullabyOf_19 : decode cX2_lullabyOf 19 = .ok (.goto 8, 3) := by decide +kernel
theorem dX2_lullabyOf_22 : decode cX2_lullabyOf 22 = .ok (.aload_n 0, 1) := by decide +kernel
theorem dX2_lullabyOf_23 : decode cX2_lullabyOf 23 = .ok (.iconst 1, 1) := by decide +kernel
theorem dX2_lullabyOf_24 : decode cX2_lullabyOf 24 = .ok (.invokevirtual 99, 3) := by decide +kernel
theorem dX2_lullabyOf_27 : decode cX2_lullabyOf 27 = .ok (.ireturn, 1) := by decide +kernel
set_option maxRecDepth 20000 in
theorem ggX2_place_X2_tr : GoodIn wsX2_place wsX2_tr := goodIn_r _ [5, 6, 7, 8, 9, 10, 11, 12, 13] (by decide +kernel) (by decide +kernel)
set_option maxRecDepth 20000 in
theorem gX2_place_X2_tr : GoodIn wsX2_place (wsV RX2 43 RX2 yX2_tr wsX2_tr) := goodIn_app (goodIn_of _ (by decide +kernel)) ggX2_place_X2_tr
theorem dX2_place_0 : decode cX2_place 0 = .ok (.aload_n 0, 1) := by decide +kernel
theorem dX2_place_1 : decode cX2_place 1 = .ok (.iload_n 1, 1) := by decide +kernel
theorem dX2_place_2 : decode cX2_place 2 = .ok (.iconst 0, 1) := by decide +kernel
theorem dX2_place_3 : decode cX2_place 3 = .ok (.invokevirtual 43, 3) := by decide +kernel
theorem dX2_place_6 : decode cX2_place 6 = .ok (.ifCond .eq 5, 3) := by decide +kernel
theorem dX2_place_9 : decode cX2_place 9 = .ok (.iconst (-1), 1) := by decide +kernel
theorem dX2_place_10 : decode cX2_place 10 = .ok (.ireturn, 1) := by decide +kernel
theorem dX2_place_11 : decode cX2_place 11 = .ok (.iconst 0, 1) := by decide +kernel
theorem dX2_place_12 : decode cX2_place 12 = .ok (.istore_n 2, 1) := by decide +kernel
theorem dX2_place_13 : decode cX2_place 13 = .ok (.iconst 0, 1) := by decide +kernel
theorem dX2_place_14 : decode cX2_place 14 = .ok (.istore_n 3, 1) := by decide +kernel
theorem dX2_place_15 : decode cX2_place 15 = .ok (.iload_n 3, 1) := by decide +kernel
theorem dX2_place_16 : decode cX2_place 16 = .ok (.iload_n 1, 1) := by decide +kernel
theorem dX2_place_17 : decode cX2_place 17 = .ok (.if_icmp .ge 26, 3) := by decide +kernel
theorem dX2_place_20 : decode cX2_place 20 = .ok (.iload_n 2, 1) := by decide +kernel
theorem dX2_place_21 : decode cX2_place 21 = .ok (.aload_n 0, 1) := by decide +kernel
theorem dX2_place_22 : decode cX2_place 22 = .ok (.iload_n 3, 1) := by decide +kernel
theorem dX2_place_23 : decode cX2_place 23 = .ok (.iconst 0, 1) := by decide +kernel
theorem dX2_place_24 : decode cX2_place 24 = .ok (.invokevirtual 43, 3) := by decide +kernel
theorem dX2_place_27 : decode cX2_place 27 = .ok (.ifCond .ne 7, 3) := by decide +kernel
theorem dX2_place_30 : decode cX2_place 30 = .ok (.iconst 1, 1) := by decide +kernel
theorem dX2_place_31 : decode cX2_place 31 = .ok (.goto 4, 3) := by decide +kernel
theorem dX2_place_34 : decode cX2_place 34 = .ok (.iconst 0, 1) := by decide +kernel
theorem dX2_place_35 : decode cX2_place 35 = .ok (.iadd, 1) := by decide +kernel
theorem dX2_place_36 : decode cX2_place 36 = .ok (.istore_n 2, 1) := by decide +kernel
theorem dX2_place_37 : decode cX2_place 37 = .ok (.iinc 3 1, 3) := by decide +kernel
theorem dX2_place_40 : decode cX2_place 40 = .ok (.goto (-25), 3) := by decide +kernel
theorem dX2_place_43 : decode cX2_place 43 = .ok (.iload_n 2, 1) := by decide +kernel
theorem dX2_place_44 : decode cX2_place 44 = .ok (.ireturn, 1) := by decide +kernel
set_option maxRecDepth 20000 in
theorem ggX2_placeInLine_X2_isTraveller : GoodIn wsX2_placeInLine wsX2_isTraveller := goodIn_r _ [6, 7, 8, 9, 5, 10, 24, 25, 26, 27, 28, 29, 30] (by decide +kernel) (by decide +kernel)
set_option maxRecDepth 20000 in
theorem gX2_placeInLine_X2_isTraveller : GoodIn wsX2_placeInLine (wsV RX2 105 RX2 yX2_isTraveller wsX2_isTraveller) := goodIn_app (goodIn_of _ (by decide +kernel)) ggX2_placeInLine_X2_isTraveller
set_option maxRecDepth 20000 in
theorem ggX2_placeInLine_X2_place : GoodIn wsX2_placeInLine wsX2_place := goodIn_r _ [14, 15, 16, 17, 5, 18, 19, 24, 25, 26, 27, 28, 29, 30] (by decide +kernel) (by decide +kernel)
set_option maxRecDepth 20000 in
theorem gX2_placeInLine_X2_place : GoodIn wsX2_placeInLine (wsV RX2 125 RX2 yX2_place wsX2_place) := goodIn_app (goodIn_of _ (by decide +kernel)) ggX2_placeInLine_X2_place
set_option maxRecDepth 20000 in
theorem ggX2_placeInLine_X2_fail : GoodIn wsX2_placeInLine wsX2_fail := goodIn_r _ [23, 1, 24, 25, 26, 27, 28, 29, 30] (by decide +kernel) (by decide +kernel)
set_option maxRecDepth 20000 in
theorem gX2_placeInLine_X2_fail : GoodIn wsX2_placeInLine (wsV RX2 99 RX2 yX2_fail wsX2_fail) := goodIn_app (goodIn_of _ (by decide +kernel)) ggX2_placeInLine_X2_fail
theorem dX2_placeInLine_0 : decode cX2_placeInLine 0 = .ok (.aload_n 0, 1) := by decide +kernel
theorem dX2_placeInLine_1 : decode cX2_placeInLine 1 = .ok (.iconst 0, 1) := by decide +kernel
theorem dX2_placeInLine_2 : decode cX2_placeInLine 2 = .ok (.putfield 26, 3) := by decide +kernel
theorem dX2_placeInLine_5 : decode cX2_placeInLine 5 = .ok (.aload_n 0, 1) := by decide +kernel
theorem dX2_placeInLine_6 : decode cX2_placeInLine 6 = .ok (.iload_n 1, 1) := by decide +kernel
theorem dX2_placeInLine_7 : decode cX2_placeInLine 7 = .ok (.invokevirtual 105, 3) := by decide +kernel
theorem dX2_placeInLine_10 : decode cX2_placeInLine 10 = .ok (.ifCond .eq 11, 3) := by decide +kernel
theorem dX2_placeInLine_13 : decode cX2_placeInLine 13 = .ok (.aload_n 0, 1) := by decide +kernel
theorem dX2_placeInLine_14 : decode cX2_placeInLine 14 = .ok (.iload_n 1, 1) := by decide +kernel
theorem dX2_placeInLine_15 : decode cX2_placeInLine 15 = .ok (.invokevirtual 125, 3) := by decide +kernel
theorem dX2_placeInLine_18 : decode cX2_placeInLine 18 = .ok (.goto 8, 3) := by decide +kernel
theorem dX2_placeInLine_21 : decode cX2_placeInLine 21 = .ok (.aload_n 0, 1) := by decide +kernel
theorem dX2_placeInLine_22 : decode cX2_placeInLine 22 = .ok (.iconst 1, 1) := by decide +kernel
theorem dX2_placeInLine_23 : decode cX2_placeInLine 23 = .ok (.invokevirtual 99, 3) := by decide +kernel
theorem dX2_placeInLine_26 : decode cX2_placeInLine 26 = .ok (.ireturn, 1) := by decide +kernel
set_option maxRecDepth 20000 in
theorem ggX2_searchTime_X2_isTraveller : GoodIn wsX2_searchTime wsX2_isTraveller := goodIn_r _ [6, 7, 8, 9, 5, 10, 29, 30, 31, 32, 33, 34, 35] (by decide +kernel) (by decide +kernel)
set_option maxRecDepth 20000 in
theorem gX2_searchTime_X2_isTraveller : GoodIn wsX2_searchTime (wsV RX2 105 RX2 yX2_isTraveller wsX2_isTraveller) := goodIn_app (goodIn_of _ (by decide +kernel)) ggX2_searchTime_X2_isTraveller
set_option maxRecDepth 20000 in
theorem ggX2_searchTime_X2_takes : GoodIn wsX2_searchTime wsX2_takes := goodIn_r _ [14, 15, 16, 17, 5, 18, 19, 20, 21, 22, 23, 7, 24, 29, 30, 31, 32, 33, 34, 35] (by decide +kernel) (by decide +kernel)
set_option maxRecDepth 20000 in
theorem gX2_searchTime_X2_takes : GoodIn wsX2_searchTime (wsV RX2 80 RX2 yX2_takes wsX2_takes) := goodIn_app (goodIn_of _ (by decide +kernel)) ggX2_searchTime_X2_takes
set_option maxRecDepth 20000 in
theorem ggX2_searchTime_X2_fail : GoodIn wsX2_searchTime wsX2_fail := goodIn_r _ [28, 1, 29, 30, 31, 32, 33, 34, 35] (by decide +kernel) (by decide +kernel)
set_option maxRecDepth 20000 in
theorem gX2_searchTime_X2_fail : GoodIn wsX2_searchTime (wsV RX2 99 RX2 yX2_fail wsX2_fail) := goodIn_app (goodIn_of _ (by decide +kernel)) ggX2_searchTime_X2_fail
theorem dX2_searchTime_0 : decode cX2_searchTime 0 = .ok (.aload_n 0, 1) := by decide +kernel
theorem dX2_searchTime_1 : decode cX2_searchTime 1 = .ok (.iconst 0, 1) := by decide +kernel
theorem dX2_searchTime_2 : decode cX2_searchTime 2 = .ok (.putfield 26, 3) := by decide +kernel
theorem dX2_searchTime_5 : decode cX2_searchTime 5 = .ok (.aload_n 0, 1) := by decide +kernel
theorem dX2_searchTime_6 : decode cX2_searchTime 6 = .ok (.iload_n 1, 1) := by decide +kernel
theorem dX2_searchTime_7 : decode cX2_searchTime 7 = .ok (.invokevirtual 105, 3) := by decide +kernel
theorem dX2_searchTime_10 : decode cX2_searchTime 10 = .ok (.ifCond .eq 11, 3) := by decide +kernel
theorem dX2_searchTime_13 : decode cX2_searchTime 13 = .ok (.aload_n 0, 1) := by decide +kernel
theorem dX2_searchTime_14 : decode cX2_searchTime 14 = .ok (.iload_n 1, 1) := by decide +kernel
theorem dX2_searchTime_15 : decode cX2_searchTime 15 = .ok (.invokevirtual 80, 3) := by decide +kernel
theorem dX2_searchTime_18 : decode cX2_searchTime 18 = .ok (.goto 8, 3) := by decide +kernel
theorem dX2_searchTime_21 : decode cX2_searchTime 21 = .ok (.aload_n 0, 1) := by decide +kernel
theorem dX2_searchTime_22 : decode cX2_searchTime 22 = .ok (.iconst 1, 1) := by decide +kernel
theorem dX2_searchTime_23 : decode cX2_searchTime 23 = .ok (.invokevirtual 99, 3) := by decide +kernel
theorem dX2_searchTime_26 : decode cX2_searchTime 26 = .ok (.ireturn, 1) := by decide +kernel
set_option maxRecDepth 20000 in
theorem ggX2_guards_X2_told : GoodIn wsX2_guards wsX2_told := goodIn_r _ [6, 7, 8, 9, 10, 11, 12, 13, 14] (by decide +kernel) (by decide +kernel)
set_option maxRecDepth 20000 in
theorem gX2_guards_X2_told : GoodIn wsX2_guards (wsV RX2 122 RX2 yX2_told wsX2_told) := goodIn_app (goodIn_of _ (by decide +kernel)) ggX2_guards_X2_told
theorem dX2_guards_0 : decode cX2_guards 0 = .ok (.aload_n 0, 1) := by decide +kernel
theorem dX2_guards_1 : decode cX2_guards 1 = .ok (.aload_n 0, 1) := by decide +kernel
theorem dX2_guards_2 : decode cX2_guards 2 = .ok (.getfield 16, 3) := by decide +kernel
theorem dX2_guards_5 : decode cX2_guards 5 = .ok (.iconst 3, 1) := by decide +kernel
theorem dX2_guards_6 : decode cX2_guards 6 = .ok (.iaload, 1) := by decide +kernel
theorem dX2_guards_7 : decode cX2_guards 7 = .ok (.invokevirtual 122, 3) := by decide +kernel
theorem dX2_guards_10 : decode cX2_guards 10 = .ok (.ireturn, 1) := by decide +kernel
set_option maxRecDepth 20000 in
theorem ggX2_guard_X2_isGuard : GoodIn wsX2_guard wsX2_isGuard := goodIn_r _ [6, 7, 8, 9, 5, 10, 19, 20, 21, 22, 23, 24, 25] (by decide +kernel) (by decide +kernel)
set_option maxRecDepth 20000 in
theorem gX2_guard_X2_isGuard : GoodIn wsX2_guard (wsV RX2 113 RX2 yX2_isGuard wsX2_isGuard) := goodIn_app (goodIn_of _ (by decide +kernel)) ggX2_guard_X2_isGuard
set_option maxRecDepth 20000 in
theorem ggX2_guard_X2_gu : GoodIn wsX2_guard wsX2_gu := goodIn_r _ [14, 7, 19, 20, 21, 22, 23, 24, 25] (by decide +kernel) (by decide +kernel)
set_option maxRecDepth 20000 in
theorem gX2_guard_X2_gu : GoodIn wsX2_guard (wsV RX2 56 RX2 yX2_gu wsX2_gu) := goodIn_app (goodIn_of _ (by decide +kernel)) ggX2_guard_X2_gu
set_option maxRecDepth 20000 in
theorem ggX2_guard_X2_fail : GoodIn wsX2_guard wsX2_fail := goodIn_r _ [18, 1, 19, 20, 21, 22, 23, 24, 25] (by decide +kernel) (by decide +kernel)
set_option maxRecDepth 20000 in
theorem gX2_guard_X2_fail : GoodIn wsX2_guard (wsV RX2 99 RX2 yX2_fail wsX2_fail) := goodIn_app (goodIn_of _ (by decide +kernel)) ggX2_guard_X2_fail
theorem dX2_guard_0 : decode cX2_guard 0 = .ok (.aload_n 0, 1) := by decide +kernel
theorem dX2_guard_1 : decode cX2_guard 1 = .ok (.iconst 0, 1) := by decide +kernel
theorem dX2_guard_2 : decode cX2_guard 2 = .ok (.putfield 26, 3) := by decide +kernel
theorem dX2_guard_5 : decode cX2_guard 5 = .ok (.aload_n 0, 1) := by decide +kernel
theorem dX2_guard_6 : decode cX2_guard 6 = .ok (.iload_n 1, 1) := by decide +kernel
theorem dX2_guard_7 : decode cX2_guard 7 = .ok (.invokevirtual 113, 3) := by decide +kernel
theorem dX2_guard_10 : decode cX2_guard 10 = .ok (.ifCond .eq 12, 3) := by decide +kernel
theorem dX2_guard_13 : decode cX2_guard 13 = .ok (.aload_n 0, 1) := by decide +kernel
theorem dX2_guard_14 : decode cX2_guard 14 = .ok (.iload_n 1, 1) := by decide +kernel
theorem dX2_guard_15 : decode cX2_guard 15 = .ok (.iload_n 2, 1) := by decide +kernel
theorem dX2_guard_16 : decode cX2_guard 16 = .ok (.invokevirtual 56, 3) := by decide +kernel
theorem dX2_guard_19 : decode cX2_guard 19 = .ok (.goto 8, 3) := by decide +kernel
theorem dX2_guard_22 : decode cX2_guard 22 = .ok (.aload_n 0, 1) := by decide +kernel
theorem dX2_guard_23 : decode cX2_guard 23 = .ok (.iconst 1, 1) := by decide +kernel
theorem dX2_guard_24 : decode cX2_guard 24 = .ok (.invokevirtual 99, 3) := by decide +kernel
theorem dX2_guard_27 : decode cX2_guard 27 = .ok (.ireturn, 1) := by decide +kernel
set_option maxRecDepth 20000 in
theorem ggX2_alertnessOf_X2_guard : GoodIn wsX2_alertnessOf wsX2_guard := goodIn_r _ [5, 6, 7, 8, 9, 4, 10, 11, 12, 13, 14, 15, 16, 17, 18, 19, 20, 21, 22, 23, 24, 25, 26, 27, 28, 29] (by decide +kernel) (by decide +kernel)
set_option maxRecDepth 20000 in
theorem gX2_alertnessOf_X2_guard : GoodIn wsX2_alertnessOf (wsV RX2 128 RX2 yX2_guard wsX2_guard) := goodIn_app (goodIn_of _ (by decide +kernel)) ggX2_alertnessOf_X2_guard
theorem dX2_alertnessOf_0 : decode cX2_alertnessOf 0 = .ok (.aload_n 0, 1) := by decide +kernel
theorem dX2_alertnessOf_1 : decode cX2_alertnessOf 1 = .ok (.iload_n 1, 1) := by decide +kernel
theorem dX2_alertnessOf_2 : decode cX2_alertnessOf 2 = .ok (.iconst 0, 1) := by decide +kernel
theorem dX2_alertnessOf_3 : decode cX2_alertnessOf 3 = .ok (.invokevirtual 128, 3) := by decide +kernel
theorem dX2_alertnessOf_6 : decode cX2_alertnessOf 6 = .ok (.ireturn, 1) := by decide +kernel
set_option maxRecDepth 20000 in
theorem ggX2_searches_X2_guard : GoodIn wsX2_searches wsX2_guard := goodIn_r _ [5, 6, 7, 8, 9, 4, 10, 11, 12, 13, 14, 15, 16, 17, 18, 19, 20, 21, 22, 23, 24, 25, 26, 27, 28, 29] (by decide +kernel) (by decide +kernel)
set_option maxRecDepth 20000 in
theorem gX2_searches_X2_guard : GoodIn wsX2_searches (wsV RX2 128 RX2 yX2_guard wsX2_guard) := goodIn_app (goodIn_of _ (by decide +kernel)) ggX2_searches_X2_guard
theorem dX2_searches_0 : decode cX2_searches 0 = .ok (.aload_n 0, 1) := by decide +kernel
theorem dX2_searches_1 : decode cX2_searches 1 = .ok (.iload_n 1, 1) := by decide +kernel
theorem dX2_searches_2 : decode cX2_searches 2 = .ok (.iconst 1, 1) := by decide +kernel
theorem dX2_searches_3 : decode cX2_searches 3 = .ok (.invokevirtual 128, 3) := by decide +kernel
theorem dX2_searches_6 : decode cX2_searches 6 = .ok (.ireturn, 1) := by decide +kernel
set_option maxRecDepth 20000 in
theorem ggX2_minutesToGo_X2_guard : GoodIn wsX2_minutesToGo wsX2_guard := goodIn_r _ [5, 6, 7, 8, 9, 4, 10, 11, 12, 13, 14, 15, 16, 17, 18, 19, 20, 21, 22, 23, 24, 25, 26, 27, 28, 29] (by decide +kernel) (by decide +kernel)
set_option maxRecDepth 20000 in
theorem gX2_minutesToGo_X2_guard : GoodIn wsX2_minutesToGo (wsV RX2 128 RX2 yX2_guard wsX2_guard) := goodIn_app (goodIn_of _ (by decide +kernel)) ggX2_minutesToGo_X2_guard
theorem dX2_minutesToGo_0 : decode cX2_minutesToGo 0 = .ok (.aload_n 0, 1) := by decide +kernel
theorem dX2_minutesToGo_1 : decode cX2_minutesToGo 1 = .ok (.iload_n 1, 1) := by decide +kernel
theorem dX2_minutesToGo_2 : decode cX2_minutesToGo 2 = .ok (.iconst 2, 1) := by decide +kernel
theorem dX2_minutesToGo_3 : decode cX2_minutesToGo 3 = .ok (.invokevirtual 128, 3) := by decide +kernel
theorem dX2_minutesToGo_6 : decode cX2_minutesToGo 6 = .ok (.ireturn, 1) := by decide +kernel
set_option maxRecDepth 20000 in
theorem ggX2_wouldFind_X2_isGuard : GoodIn wsX2_wouldFind wsX2_isGuard := goodIn_r _ [6, 7, 8, 9, 5, 10, 37, 38, 39, 40, 41, 42, 43] (by decide +kernel) (by decide +kernel)
set_option maxRecDepth 20000 in
theorem gX2_wouldFind_X2_isGuard : GoodIn wsX2_wouldFind (wsV RX2 113 RX2 yX2_isGuard wsX2_isGuard) := goodIn_app (goodIn_of _ (by decide +kernel)) ggX2_wouldFind_X2_isGuard
set_option maxRecDepth 20000 in
theorem ggX2_wouldFind_X2_isTraveller : GoodIn wsX2_wouldFind wsX2_isTraveller := goodIn_r _ [14, 15, 8, 9, 5, 10, 37, 38, 39, 40, 41, 42, 43] (by decide +kernel) (by decide +kernel)
set_option maxRecDepth 20000 in
theorem gX2_wouldFind_X2_isTraveller : GoodIn wsX2_wouldFind (wsV RX2 105 RX2 yX2_isTraveller wsX2_isTraveller) := goodIn_app (goodIn_of _ (by decide +kernel)) ggX2_wouldFind_X2_isTraveller
set_option maxRecDepth 20000 in
theorem ggX2_wouldFind_X2_finds : GoodIn wsX2_wouldFind wsX2_finds := goodIn_r _ [19, 20, 21, 22, 5, 23, 24, 25, 26, 27, 28, 29, 30, 31, 32, 7, 33, 34, 35, 36, 37, 38, 39, 40, 41, 42, 43] (by decide +kernel) (by decide +kernel)
set_option maxRecDepth 20000 in
theorem gX2_wouldFind_X2_finds : GoodIn wsX2_wouldFind (wsV RX2 70 RX2 yX2_finds wsX2_finds) := goodIn_app (goodIn_of _ (by decide +kernel)) ggX2_wouldFind_X2_finds
theorem dX2_wouldFind_0 : decode cX2_wouldFind 0 = .ok (.aload_n 0, 1) := by decide +kernel
theorem dX2_wouldFind_1 : decode cX2_wouldFind 1 = .ok (.aload_n 0, 1) := by decide +kernel
theorem dX2_wouldFind_2 : decode cX2_wouldFind 2 = .ok (.iload_n 1, 1) := by decide +kernel
theorem dX2_wouldFind_3 : decode cX2_wouldFind 3 = .ok (.invokevirtual 113, 3) := by decide +kernel
theorem dX2_wouldFind_6 : decode cX2_wouldFind 6 = .ok (.ifCond .eq 15, 3) := by decide +kernel
theorem dX2_wouldFind_9 : decode cX2_wouldFind 9 = .ok (.aload_n 0, 1) := by decide +kernel
theorem dX2_wouldFind_10 : decode cX2_wouldFind 10 = .ok (.iload_n 2, 1) := by decide +kernel
theorem dX2_wouldFind_11 : decode cX2_wouldFind 11 = .ok (.invokevirtual 105, 3) := by decide +kernel
theorem dX2_wouldFind_14 : decode cX2_wouldFind 14 = .ok (.ifCond .eq 7, 3) := by decide +kernel
theorem dX2_wouldFind_17 : decode cX2_wouldFind 17 = .ok (.iconst 0, 1) := by decide +kernel
theorem dX2_wouldFind_18 : decode cX2_wouldFind 18 = .ok (.goto 4, 3) := by decide +kernel
theorem dX2_wouldFind_21 : decode cX2_wouldFind 21 = .ok (.iconst 1, 1) := by decide +kernel
theorem dX2_wouldFind_22 : decode cX2_wouldFind 22 = .ok (.putfield 26, 3) := by decide +kernel
theorem dX2_wouldFind_25 : decode cX2_wouldFind 25 = .ok (.aload_n 0, 1) := by decide +kernel
theorem dX2_wouldFind_26 : decode cX2_wouldFind 26 = .ok (.getfield 26, 3) := by decide +kernel
theorem dX2_wouldFind_29 : decode cX2_wouldFind 29 = .ok (.ifCond .ne 16, 3) := by decide +kernel
theorem dX2_wouldFind_32 : decode cX2_wouldFind 32 = .ok (.aload_n 0, 1) := by decide +kernel
theorem dX2_wouldFind_33 : decode cX2_wouldFind 33 = .ok (.iload_n 1, 1) := by decide +kernel
theorem dX2_wouldFind_34 : decode cX2_wouldFind 34 = .ok (.iload_n 2, 1) := by decide +kernel
theorem dX2_wouldFind_35 : decode cX2_wouldFind 35 = .ok (.invokevirtual 70, 3) := by decide +kernel
theorem dX2_wouldFind_38 : decode cX2_wouldFind 38 = .ok (.ifCond .eq 7, 3) := by decide +kernel
theorem dX2_wouldFind_41 : decode cX2_wouldFind 41 = .ok (.iconst 1, 1) := by decide +kernel
theorem dX2_wouldFind_42 : decode cX2_wouldFind 42 = .ok (.goto 4, 3) := by decide +kernel
theorem dX2_wouldFind_45 : decode cX2_wouldFind 45 = .ok (.iconst 0, 1) := by decide +kernel
theorem dX2_wouldFind_46 : decode cX2_wouldFind 46 = .ok (.ireturn, 1) := by decide +kernel
set_option maxRecDepth 20000 in
theorem ggX2_alertest_X2_gu : GoodIn wsX2_alertest wsX2_gu := goodIn_r _ [6, 1, 7, 8, 9, 10, 11, 12, 13] (by decide +kernel) (by decide +kernel)
set_option maxRecDepth 20000 in
theorem gX2_alertest_X2_gu : GoodIn wsX2_alertest (wsV RX2 56 RX2 yX2_gu wsX2_gu) := goodIn_app (goodIn_of _ (by decide +kernel)) ggX2_alertest_X2_gu
theorem dX2_alertest_0 : decode cX2_alertest 0 = .ok (.iconst (-1), 1) := by decide +kernel
theorem dX2_alertest_1 : decode cX2_alertest 1 = .ok (.istore_n 1, 1) := by decide +kernel
theorem dX2_alertest_2 : decode cX2_alertest 2 = .ok (.iconst 0, 1) := by decide +kernel
theorem dX2_alertest_3 : decode cX2_alertest 3 = .ok (.istore_n 2, 1) := by decide +kernel
theorem dX2_alertest_4 : decode cX2_alertest 4 = .ok (.iload_n 2, 1) := by decide +kernel
theorem dX2_alertest_5 : decode cX2_alertest 5 = .ok (.aload_n 0, 1) := by decide +kernel
theorem dX2_alertest_6 : decode cX2_alertest 6 = .ok (.getfield 16, 3) := by decide +kernel
theorem dX2_alertest_9 : decode cX2_alertest 9 = .ok (.iconst 3, 1) := by decide +kernel
theorem dX2_alertest_10 : decode cX2_alertest 10 = .ok (.iaload, 1) := by decide +kernel
theorem dX2_alertest_11 : decode cX2_alertest 11 = .ok (.if_icmp .ge 31, 3) := by decide +kernel
theorem dX2_alertest_14 : decode cX2_alertest 14 = .ok (.iload_n 1, 1) := by decide +kernel
theorem dX2_alertest_15 : decode cX2_alertest 15 = .ok (.iconst (-1), 1) := by decide +kernel
theorem dX2_alertest_16 : decode cX2_alertest 16 = .ok (.if_icmp .eq 18, 3) := by decide +kernel
theorem dX2_alertest_19 : decode cX2_alertest 19 = .ok (.aload_n 0, 1) := by decide +kernel
theorem dX2_alertest_20 : decode cX2_alertest 20 = .ok (.iload_n 2, 1) := by decide +kernel
theorem dX2_alertest_21 : decode cX2_alertest 21 = .ok (.iconst 0, 1) := by decide +kernel
theorem dX2_alertest_22 : decode cX2_alertest 22 = .ok (.invokevirtual 56, 3) := by decide +kernel
theorem dX2_alertest_25 : decode cX2_alertest 25 = .ok (.aload_n 0, 1) := by decide +kernel
theorem dX2_alertest_26 : decode cX2_alertest 26 = .ok (.iload_n 1, 1) := by decide +kernel
theorem dX2_alertest_27 : decode cX2_alertest 27 = .ok (.iconst 0, 1) := by decide +kernel
theorem dX2_alertest_28 : decode cX2_alertest 28 = .ok (.invokevirtual 56, 3) := by decide +kernel
theorem dX2_alertest_31 : decode cX2_alertest 31 = .ok (.if_icmp .le 5, 3) := by decide +kernel
theorem dX2_alertest_34 : decode cX2_alertest 34 = .ok (.iload_n 2, 1) := by decide +kernel
theorem dX2_alertest_35 : decode cX2_alertest 35 = .ok (.istore_n 1, 1) := by decide +kernel
theorem dX2_alertest_36 : decode cX2_alertest 36 = .ok (.iinc 2 1, 3) := by decide +kernel
theorem dX2_alertest_39 : decode cX2_alertest 39 = .ok (.goto (-35), 3) := by decide +kernel
theorem dX2_alertest_42 : decode cX2_alertest 42 = .ok (.iload_n 1, 1) := by decide +kernel
theorem dX2_alertest_43 : decode cX2_alertest 43 = .ok (.ireturn, 1) := by decide +kernel
set_option maxRecDepth 20000 in
theorem ggX2_mostAlert_X2_alertest : GoodIn wsX2_mostAlert wsX2_alertest := goodIn_r _ [5, 6, 7, 8, 9, 4, 10, 16, 17, 18, 19, 20, 21, 22] (by decide +kernel) (by decide +kernel)
set_option maxRecDepth 20000 in
theorem gX2_mostAlert_X2_alertest : GoodIn wsX2_mostAlert (wsV RX2 131 RX2 yX2_alertest wsX2_alertest) := goodIn_app (goodIn_of _ (by decide +kernel)) ggX2_mostAlert_X2_alertest
set_option maxRecDepth 20000 in
theorem ggX2_mostAlert_X2_told : GoodIn wsX2_mostAlert wsX2_told := goodIn_r _ [14, 15, 16, 17, 18, 19, 20, 21, 22] (by decide +kernel) (by decide +kernel)
set_option maxRecDepth 20000 in
theorem gX2_mostAlert_X2_told : GoodIn wsX2_mostAlert (wsV RX2 122 RX2 yX2_told wsX2_told) := goodIn_app (goodIn_of _ (by decide +kernel)) ggX2_mostAlert_X2_told
theorem dX2_mostAlert_0 : decode cX2_mostAlert 0 = .ok (.aload_n 0, 1) := by decide +kernel
theorem dX2_mostAlert_1 : decode cX2_mostAlert 1 = .ok (.aload_n 0, 1) := by decide +kernel
theorem dX2_mostAlert_2 : decode cX2_mostAlert 2 = .ok (.invokevirtual 131, 3) := by decide +kernel
theorem dX2_mostAlert_5 : decode cX2_mostAlert 5 = .ok (.invokevirtual 122, 3) := by decide +kernel
theorem dX2_mostAlert_8 : decode cX2_mostAlert 8 = .ok (.ireturn, 1) := by decide +kernel
set_option maxRecDepth 20000 in
theorem ggX2_run_X2_tr : GoodIn wsX2_run wsX2_tr := goodIn_r _ [5, 6, 70, 71, 72, 73, 74, 75, 76] (by decide +kernel) (by decide +kernel)
set_option maxRecDepth 20000 in
theorem gX2_run_X2_tr : GoodIn wsX2_run (wsV RX2 43 RX2 yX2_tr wsX2_tr) := goodIn_app (goodIn_of _ (by decide +kernel)) ggX2_run_X2_tr
set_option maxRecDepth 20000 in
theorem ggX2_run_X2_minuteOn : GoodIn wsX2_run wsX2_minuteOn := goodIn_r _ [10, 6, 11, 12, 13, 14, 15, 4, 16, 17, 18, 19, 20, 1, 2, 3, 5, 21, 22, 23, 24, 25, 26, 27, 28, 29, 30, 31, 32, 33, 34, 35, 36, 37, 38, 39, 40, 41, 42, 43, 44, 45, 46, 47, 48, 49, 50, 51, 52, 53, 54, 55, 56, 57, 58, 59, 60, 61, 62, 63, 64, 65, 66, 67, 68, 69, 70, 71, 72, 73, 74, 75, 76] (by decide +kernel) (by decide +kernel)
set_option maxRecDepth 20000 in
theorem gX2_run_X2_minuteOn : GoodIn wsX2_run (wsV RX2 96 RX2 yX2_minuteOn wsX2_minuteOn) := goodIn_app (goodIn_of _ (by decide +kernel)) ggX2_run_X2_minuteOn
theorem dX2_run_0 : decode cX2_run 0 = .ok (.iconst 0, 1) := by decide +kernel
theorem dX2_run_1 : decode cX2_run 1 = .ok (.istore_n 2, 1) := by decide +kernel
theorem dX2_run_2 : decode cX2_run 2 = .ok (.iload_n 2, 1) := by decide +kernel
theorem dX2_run_3 : decode cX2_run 3 = .ok (.bipush 100, 2) := by decide +kernel
theorem dX2_run_5 : decode cX2_run 5 = .ok (.if_icmp .gt 23, 3) := by decide +kernel
theorem dX2_run_8 : decode cX2_run 8 = .ok (.aload_n 0, 1) := by decide +kernel
theorem dX2_run_9 : decode cX2_run 9 = .ok (.iload_n 1, 1) := by decide +kernel
theorem dX2_run_10 : decode cX2_run 10 = .ok (.iconst 0, 1) := by decide +kernel
theorem dX2_run_11 : decode cX2_run 11 = .ok (.invokevirtual 43, 3) := by decide +kernel
theorem dX2_run_14 : decode cX2_run 14 = .ok (.iconst 3, 1) := by decide +kernel
theorem dX2_run_15 : decode cX2_run 15 = .ok (.if_icmp .eq 13, 3) := by decide +kernel
theorem dX2_run_18 : decode cX2_run 18 = .ok (.aload_n 0, 1) := by decide +kernel
theorem dX2_run_19 : decode cX2_run 19 = .ok (.invokevirtual 96, 3) := by decide +kernel
theorem dX2_run_22 : decode cX2_run 22 = .ok (.iinc 2 1, 3) := by decide +kernel
theorem dX2_run_25 : decode cX2_run 25 = .ok (.goto (-23), 3) := by decide +kernel
theorem dX2_run_28 : decode cX2_run 28 = .ok (.iload_n 2, 1) := by decide +kernel
theorem dX2_run_29 : decode cX2_run 29 = .ok (.bipush 100, 2) := by decide +kernel
theorem dX2_run_31 : decode cX2_run 31 = .ok (.if_icmp .le 7, 3) := by decide +kernel
theorem dX2_run_34 : decode cX2_run 34 = .ok (.iconst (-1), 1) := by decide +kernel
theorem dX2_run_35 : decode cX2_run 35 = .ok (.goto 4, 3) := by decide +kernel
theorem dX2_run_38 : decode cX2_run 38 = .ok (.iload_n 2, 1) := by decide +kernel
theorem dX2_run_39 : decode cX2_run 39 = .ok (.ireturn, 1) := by decide +kernel
set_option maxRecDepth 20000 in
theorem ggX2_until_X2_keep : GoodIn wsX2_until wsX2_keep := goodIn_r _ [5, 6, 7, 8, 9, 10, 11, 87, 88, 89, 90, 91, 92, 93] (by decide +kernel) (by decide +kernel)
set_option maxRecDepth 20000 in
theorem gX2_until_X2_keep : GoodIn wsX2_until (wsV RX2 134 RX2 yX2_keep wsX2_keep) := goodIn_app (goodIn_of _ (by decide +kernel)) ggX2_until_X2_keep
set_option maxRecDepth 20000 in
theorem ggX2_until_X2_run : GoodIn wsX2_until wsX2_run := goodIn_r _ [15, 16, 17, 18, 4, 19, 6, 20, 21, 22, 23, 24, 25, 26, 27, 28, 29, 30, 31, 32, 33, 34, 35, 36, 37, 38, 39, 40, 41, 42, 43, 44, 45, 46, 47, 48, 49, 50, 51, 52, 53, 54, 55, 56, 57, 58, 59, 60, 61, 62, 63, 64, 65, 66, 67, 68, 69, 70, 71, 72, 73, 74, 75, 76, 77, 78, 79, 80, 81, 82, 87, 88, 89, 90, 91, 92, 93] (by decide +kernel) (by decide +kernel)
set_option maxRecDepth 20000 in
theorem gX2_until_X2_run : GoodIn wsX2_until (wsV RX2 137 RX2 yX2_run wsX2_run) := goodIn_app (goodIn_of _ (by decide +kernel)) ggX2_until_X2_run
set_option maxRecDepth 20000 in
theorem ggX2_until_X2_bringBack : GoodIn wsX2_until wsX2_bringBack := goodIn_r _ [86, 7, 6, 8, 9, 10, 11, 87, 88, 89, 90, 91, 92, 93] (by decide +kernel) (by decide +kernel)
set_option maxRecDepth 20000 in
theorem gX2_until_X2_bringBack : GoodIn wsX2_until (wsV RX2 140 RX2 yX2_bringBack wsX2_bringBack) := goodIn_app (goodIn_of _ (by decide +kernel)) ggX2_until_X2_bringBack
theorem dX2_until_0 : decode cX2_until 0 = .ok (.aload_n 0, 1) := by decide +kernel
theorem dX2_until_1 : decode cX2_until 1 = .ok (.invokevirtual 134, 3) := by decide +kernel
theorem dX2_until_4 : decode cX2_until 4 = .ok (.aload_n 0, 1) := by decide +kernel
theorem dX2_until_5 : decode cX2_until 5 = .ok (.iload_n 1, 1) := by decide +kernel
theorem dX2_until_6 : decode cX2_until 6 = .ok (.invokevirtual 137, 3) := by decide +kernel
theorem dX2_until_9 : decode cX2_until 9 = .ok (.istore_n 2, 1) := by decide +kernel
theorem dX2_until_10 : decode cX2_until 10 = .ok (.aload_n 0, 1) := by decide +kernel
theorem dX2_until_11 : decode cX2_until 11 = .ok (.invokevirtual 140, 3) := by decide +kernel
theorem dX2_until_14 : decode cX2_until 14 = .ok (.iload_n 2, 1) := by decide +kernel
theorem dX2_until_15 : decode cX2_until 15 = .ok (.ireturn, 1) := by decide +kernel
set_option maxRecDepth 20000 in
theorem ggX2_minutesUntilAsleep_X2_isTraveller : GoodIn wsX2_minutesUntilAsleep wsX2_isTraveller := goodIn_r _ [6, 7, 8, 9, 5, 10, 103, 104, 105, 106, 107, 108, 109] (by decide +kernel) (by decide +kernel)
set_option maxRecDepth 20000 in
theorem gX2_minutesUntilAsleep_X2_isTraveller : GoodIn wsX2_minutesUntilAsleep (wsV RX2 105 RX2 yX2_isTraveller wsX2_isTraveller) := goodIn_app (goodIn_of _ (by decide +kernel)) ggX2_minutesUntilAsleep_X2_isTraveller
set_option maxRecDepth 20000 in
theorem ggX2_minutesUntilAsleep_X2_until : GoodIn wsX2_minutesUntilAsleep wsX2_until := goodIn_r _ [14, 15, 16, 17, 5, 18, 19, 20, 21, 22, 23, 24, 25, 26, 27, 28, 29, 30, 31, 32, 33, 34, 35, 36, 37, 7, 38, 39, 40, 41, 42, 43, 44, 45, 46, 47, 48, 49, 50, 51, 52, 53, 54, 55, 56, 57, 58, 59, 60, 61, 62, 63, 64, 65, 66, 67, 68, 69, 70, 71, 72, 73, 74, 75, 76, 77, 78, 79, 80, 81, 82, 83, 84, 85, 86, 87, 88, 89, 90, 91, 92, 93, 94, 95, 96, 97, 98, 103, 104, 105, 106, 107, 108, 109] (by decide +kernel) (by decide +kernel)
set_option maxRecDepth 20000 in
theorem gX2_minutesUntilAsleep_X2_until : GoodIn wsX2_minutesUntilAsleep (wsV RX2 143 RX2 yX2_until wsX2_until) := goodIn_app (goodIn_of _ (by decide +kernel)) ggX2_minutesUntilAsleep_X2_until
set_option maxRecDepth 20000 in
theorem ggX2_minutesUntilAsleep_X2_fail : GoodIn wsX2_minutesUntilAsleep wsX2_fail := goodIn_r _ [102, 1, 103, 104, 105, 106, 107, 108, 109] (by decide +kernel) (by decide +kernel)
set_option maxRecDepth 20000 in
theorem gX2_minutesUntilAsleep_X2_fail : GoodIn wsX2_minutesUntilAsleep (wsV RX2 99 RX2 yX2_fail wsX2_fail) := goodIn_app (goodIn_of _ (by decide +kernel)) ggX2_minutesUntilAsleep_X2_fail
theorem dX2_minutesUntilAsleep_0 : decode cX2_minutesUntilAsleep 0 = .ok (.aload_n 0, 1) := by decide +kernel
theorem dX2_minutesUntilAsleep_1 : decode cX2_minutesUntilAsleep 1 = .ok (.iconst 0, 1) := by decide +kernel
theorem dX2_minutesUntilAsleep_2 : decode cX2_minutesUntilAsleep 2 = .ok (.putfield 26, 3) := by decide +kernel
theorem dX2_minutesUntilAsleep_5 : decode cX2_minutesUntilAsleep 5 = .ok (.aload_n 0, 1) := by decide +kernel
theorem dX2_minutesUntilAsleep_6 : decode cX2_minutesUntilAsleep 6 = .ok (.iload_n 1, 1) := by decide +kernel
theorem dX2_minutesUntilAsleep_7 : decode cX2_minutesUntilAsleep 7 = .ok (.invokevirtual 105, 3) := by decide +kernel
theorem dX2_minutesUntilAsleep_10 : decode cX2_minutesUntilAsleep 10 = .ok (.ifCond .eq 11, 3) := by decide +kernel
theorem dX2_minutesUntilAsleep_13 : decode cX2_minutesUntilAsleep 13 = .ok (.aload_n 0, 1) := by decide +kernel
theorem dX2_minutesUntilAsleep_14 : decode cX2_minutesUntilAsleep 14 = .ok (.iload_n 1, 1) := by decide +kernel
theorem dX2_minutesUntilAsleep_15 : decode cX2_minutesUntilAsleep 15 = .ok (.invokevirtual 143, 3) := by decide +kernel
theorem dX2_minutesUntilAsleep_18 : decode cX2_minutesUntilAsleep 18 = .ok (.goto 8, 3) := by decide +kernel
theorem dX2_minutesUntilAsleep_21 : decode cX2_minutesUntilAsleep 21 = .ok (.aload_n 0, 1) := by decide +kernel
theorem dX2_minutesUntilAsleep_22 : decode cX2_minutesUntilAsleep 22 = .ok (.iconst 1, 1) := by decide +kernel
theorem dX2_minutesUntilAsleep_23 : decode cX2_minutesUntilAsleep 23 = .ok (.invokevirtual 99, 3) := by decide +kernel
theorem dX2_minutesUntilAsleep_26 : decode cX2_minutesUntilAsleep 26 = .ok (.ireturn, 1) := by decide +kernel
set_option maxRecDepth 20000 in
theorem ggX2_sleepers_X2_keep : GoodIn wsX2_sleepers wsX2_keep := goodIn_r _ [5, 6, 7, 8, 9, 10, 11, 91, 92, 93, 94, 95, 96, 97] (by decide +kernel) (by decide +kernel)
set_option maxRecDepth 20000 in
theorem gX2_sleepers_X2_keep : GoodIn wsX2_sleepers (wsV RX2 134 RX2 yX2_keep wsX2_keep) := goodIn_app (goodIn_of _ (by decide +kernel)) ggX2_sleepers_X2_keep
set_option maxRecDepth 20000 in
theorem ggX2_sleepers_X2_minutesOn : GoodIn wsX2_sleepers wsX2_minutesOn := goodIn_r _ [15, 16, 17, 18, 4, 19, 6, 20, 21, 22, 23, 24, 25, 26, 27, 28, 29, 30, 31, 32, 33, 34, 35, 36, 37, 38, 39, 40, 41, 42, 43, 44, 45, 46, 47, 48, 49, 50, 51, 52, 53, 54, 55, 56, 57, 58, 59, 60, 61, 62, 63, 64, 65, 66, 67, 68, 69, 70, 71, 72, 73, 74, 75, 76, 77, 78, 79, 80, 81, 82, 91, 92, 93, 94, 95, 96, 97] (by decide +kernel) (by decide +kernel)
set_option maxRecDepth 20000 in
theorem gX2_sleepers_X2_minutesOn : GoodIn wsX2_sleepers (wsV RX2 119 RX2 yX2_minutesOn wsX2_minutesOn) := goodIn_app (goodIn_of _ (by decide +kernel)) ggX2_sleepers_X2_minutesOn
set_option maxRecDepth 20000 in
theorem ggX2_sleepers_X2_count : GoodIn wsX2_sleepers wsX2_count := goodIn_r _ [86, 21, 30, 31, 32, 4, 33, 6, 91, 92, 93, 94, 95, 96, 97] (by decide +kernel) (by decide +kernel)
set_option maxRecDepth 20000 in
theorem gX2_sleepers_X2_count : GoodIn wsX2_sleepers (wsV RX2 116 RX2 yX2_count wsX2_count) := goodIn_app (goodIn_of _ (by decide +kernel)) ggX2_sleepers_X2_count
set_option maxRecDepth 20000 in
theorem ggX2_sleepers_X2_bringBack : GoodIn wsX2_sleepers wsX2_bringBack := goodIn_r _ [90, 7, 6, 8, 9, 10, 11, 91, 92, 93, 94, 95, 96, 97] (by decide +kernel) (by decide +kernel)
set_option maxRecDepth 20000 in
theorem gX2_sleepers_X2_bringBack : GoodIn wsX2_sleepers (wsV RX2 140 RX2 yX2_bringBack wsX2_bringBack) := goodIn_app (goodIn_of _ (by decide +kernel)) ggX2_sleepers_X2_bringBack
theorem dX2_sleepers_0 : decode cX2_sleepers 0 = .ok (.aload_n 0, 1) := by decide +kernel
theorem dX2_sleepers_1 : decode cX2_sleepers 1 = .ok (.invokevirtual 134, 3) := by decide +kernel
theorem dX2_sleepers_4 : decode cX2_sleepers 4 = .ok (.aload_n 0, 1) := by decide +kernel
theorem dX2_sleepers_5 : decode cX2_sleepers 5 = .ok (.iload_n 1, 1) := by decide +kernel
theorem dX2_sleepers_6 : decode cX2_sleepers 6 = .ok (.invokevirtual 119, 3) := by decide +kernel
theorem dX2_sleepers_9 : decode cX2_sleepers 9 = .ok (.aload_n 0, 1) := by decide +kernel
theorem dX2_sleepers_10 : decode cX2_sleepers 10 = .ok (.iconst 3, 1) := by decide +kernel
theorem dX2_sleepers_11 : decode cX2_sleepers 11 = .ok (.invokevirtual 116, 3) := by decide +kernel
theorem dX2_sleepers_14 : decode cX2_sleepers 14 = .ok (.istore_n 2, 1) := by decide +kernel
theorem dX2_sleepers_15 : decode cX2_sleepers 15 = .ok (.aload_n 0, 1) := by decide +kernel
theorem dX2_sleepers_16 : decode cX2_sleepers 16 = .ok (.invokevirtual 140, 3) := by decide +kernel
theorem dX2_sleepers_19 : decode cX2_sleepers 19 = .ok (.iload_n 2, 1) := by decide +kernel
theorem dX2_sleepers_20 : decode cX2_sleepers 20 = .ok (.ireturn, 1) := by decide +kernel
set_option maxRecDepth 20000 in
theorem ggX2_asleepIn_X2_isIn : GoodIn wsX2_asleepIn wsX2_isIn := goodIn_r _ [5] (by decide +kernel) (by decide +kernel)
set_option maxRecDepth 20000 in
theorem gX2_asleepIn_X2_isIn : GoodIn wsX2_asleepIn (va_wsS RX2 33 yX2_isIn wsX2_isIn) := goodIn_app (goodIn_of _ (by decide +kernel)) ggX2_asleepIn_X2_isIn
set_option maxRecDepth 20000 in
theorem ggX2_asleepIn_X2_sleepers : GoodIn wsX2_asleepIn wsX2_sleepers := goodIn_r _ [9, 10, 11, 12, 4, 13, 14, 15, 16, 17, 18, 19, 20, 21, 22, 23, 24, 25, 26, 27, 28, 29, 30, 31, 32, 33, 34, 35, 36, 37, 38, 39, 40, 41, 42, 43, 44, 45, 46, 47, 48, 49, 50, 51, 52, 53, 54, 55, 56, 57, 58, 59, 60, 61, 62, 63, 64, 65, 66, 67, 68, 69, 70, 71, 72, 73, 74, 75, 76, 77, 78, 79, 80, 81, 82, 83, 84, 85, 86, 87, 88, 89, 90, 91, 92, 93, 94, 95, 96, 97, 98, 103, 104, 105, 106, 107, 108, 109] (by decide +kernel) (by decide +kernel)
set_option maxRecDepth 20000 in
theorem gX2_asleepIn_X2_sleepers : GoodIn wsX2_asleepIn (wsV RX2 146 RX2 yX2_sleepers wsX2_sleepers) := goodIn_app (goodIn_of _ (by decide +kernel)) ggX2_asleepIn_X2_sleepers
set_option maxRecDepth 20000 in
theorem ggX2_asleepIn_X2_fail : GoodIn wsX2_asleepIn wsX2_fail := goodIn_r _ [102, 1, 103, 104, 105, 106, 107, 108, 109] (by decide +kernel) (by decide +kernel)
set_option maxRecDepth 20000 in
theorem gX2_asleepIn_X2_fail : GoodIn wsX2_asleepIn (wsV RX2 99 RX2 yX2_fail wsX2_fail) := goodIn_app (goodIn_of _ (by decide +kernel)) ggX2_asleepIn_X2_fail
theorem dX2_asleepIn_0 : decode cX2_asleepIn 0 = .ok (.aload_n 0, 1) := by decide +kernel
theorem dX2_asleepIn_1 : decode cX2_asleepIn 1 = .ok (.iconst 0, 1) := by decide +kernel
theorem dX2_asleepIn_2 : decode cX2_asleepIn 2 = .ok (.putfield 26, 3) := by decide +kernel
theorem dX2_asleepIn_5 : decode cX2_asleepIn 5 = .ok (.iload_n 1, 1) := by decide +kernel
theorem dX2_asleepIn_6 : decode cX2_asleepIn 6 = .ok (.iconst 1, 1) := by decide +kernel
theorem dX2_asleepIn_7 : decode cX2_asleepIn 7 = .ok (.bipush 60, 2) := by decide +kernel
theorem dX2_asleepIn_9 : decode cX2_asleepIn 9 = .ok (.invokestatic 33, 3) := by decide +kernel
theorem dX2_asleepIn_12 : decode cX2_asleepIn 12 = .ok (.ifCond .eq 11, 3) := by decide +kernel
theorem dX2_asleepIn_15 : decode cX2_asleepIn 15 = .ok (.aload_n 0, 1) := by decide +kernel
theorem dX2_asleepIn_16 : decode cX2_asleepIn 16 = .ok (.iload_n 1, 1) := by decide +kernel
theorem dX2_asleepIn_17 : decode cX2_asleepIn 17 = .ok (.invokevirtual 146, 3) := by decide +kernel
theorem dX2_asleepIn_20 : decode cX2_asleepIn 20 = .ok (.goto 8, 3) := by decide +kernel
theorem dX2_asleepIn_23 : decode cX2_asleepIn 23 = .ok (.aload_n 0, 1) := by decide +kernel
theorem dX2_asleepIn_24 : decode cX2_asleepIn 24 = .ok (.iconst 1, 1) := by decide +kernel
theorem dX2_asleepIn_25 : decode cX2_asleepIn 25 = .ok (.invokevirtual 99, 3) := by decide +kernel
theorem dX2_asleepIn_28 : decode cX2_asleepIn 28 = .ok (.ireturn, 1) := by decide +kernel
set_option maxRecDepth 20000 in
theorem ggX2_bestToDeclare_X2_isTraveller : GoodIn wsX2_bestToDeclare wsX2_isTraveller := goodIn_r _ [6, 7, 8, 9, 5, 10, 99, 100, 101, 102, 103, 104, 105] (by decide +kernel) (by decide +kernel)
set_option maxRecDepth 20000 in
theorem gX2_bestToDeclare_X2_isTraveller : GoodIn wsX2_bestToDeclare (wsV RX2 105 RX2 yX2_isTraveller wsX2_isTraveller) := goodIn_app (goodIn_of _ (by decide +kernel)) ggX2_bestToDeclare_X2_isTraveller
set_option maxRecDepth 20000 in
theorem ggX2_bestToDeclare_X2_fail : GoodIn wsX2_bestToDeclare wsX2_fail := goodIn_r _ [14, 1, 99, 100, 101, 102, 103, 104, 105] (by decide +kernel) (by decide +kernel)
set_option maxRecDepth 20000 in
theorem gX2_bestToDeclare_X2_fail : GoodIn wsX2_bestToDeclare (wsV RX2 99 RX2 yX2_fail wsX2_fail) := goodIn_app (goodIn_of _ (by decide +kernel)) ggX2_bestToDeclare_X2_fail
set_option maxRecDepth 20000 in
theorem ggX2_bestToDeclare_X2_tr : GoodIn wsX2_bestToDeclare wsX2_tr := goodIn_r _ [18, 19, 99, 100, 101, 102, 103, 104, 105] (by decide +kernel) (by decide +kernel)
set_option maxRecDepth 20000 in
theorem gX2_bestToDeclare_X2_tr : GoodIn wsX2_bestToDeclare (wsV RX2 43 RX2 yX2_tr wsX2_tr) := goodIn_app (goodIn_of _ (by decide +kernel)) ggX2_bestToDeclare_X2_tr
set_option maxRecDepth 20000 in
theorem ggX2_bestToDeclare_X2_keep : GoodIn wsX2_bestToDeclare wsX2_keep := goodIn_r _ [23, 19, 24, 25, 26, 27, 28, 99, 100, 101, 102, 103, 104, 105] (by decide +kernel) (by decide +kernel)
set_option maxRecDepth 20000 in
theorem gX2_bestToDeclare_X2_keep : GoodIn wsX2_bestToDeclare (wsV RX2 134 RX2 yX2_keep wsX2_keep) := goodIn_app (goodIn_of _ (by decide +kernel)) ggX2_bestToDeclare_X2_keep
set_option maxRecDepth 20000 in
theorem ggX2_bestToDeclare_X2_let : GoodIn wsX2_bestToDeclare wsX2_let := goodIn_r _ [32, 19, 99, 100, 101, 102, 103, 104, 105] (by decide +kernel) (by decide +kernel)
set_option maxRecDepth 20000 in
theorem gX2_bestToDeclare_X2_let : GoodIn wsX2_bestToDeclare (wsV RX2 63 RX2 yX2_let wsX2_let) := goodIn_app (goodIn_of _ (by decide +kernel)) ggX2_bestToDeclare_X2_let
set_option maxRecDepth 20000 in
theorem ggX2_bestToDeclare_X2_run : GoodIn wsX2_bestToDeclare wsX2_run := goodIn_r _ [36, 15, 16, 17, 5, 18, 19, 37, 38, 39, 40, 41, 7, 42, 43, 44, 45, 46, 47, 48, 49, 29, 30, 31, 32, 50, 51, 52, 53, 54, 55, 56, 57, 58, 59, 60, 61, 62, 63, 64, 65, 66, 67, 68, 69, 70, 71, 72, 73, 74, 75, 76, 77, 78, 79, 80, 81, 82, 83, 84, 85, 86, 87, 88, 89, 90, 91, 92, 93, 94, 99, 100, 101, 102, 103, 104, 105] (by decide +kernel) (by decide +kernel)
set_option maxRecDepth 20000 in
theorem gX2_bestToDeclare_X2_run : GoodIn wsX2_bestToDeclare (wsV RX2 137 RX2 yX2_run wsX2_run) := goodIn_app (goodIn_of _ (by decide +kernel)) ggX2_bestToDeclare_X2_run
set_option maxRecDepth 20000 in
theorem ggX2_bestToDeclare_X2_bringBack : GoodIn wsX2_bestToDeclare wsX2_bringBack := goodIn_r _ [98, 24, 19, 25, 26, 27, 28, 99, 100, 101, 102, 103, 104, 105] (by decide +kernel) (by decide +kernel)
set_option maxRecDepth 20000 in
theorem gX2_bestToDeclare_X2_bringBack : GoodIn wsX2_bestToDeclare (wsV RX2 140 RX2 yX2_bringBack wsX2_bringBack) := goodIn_app (goodIn_of _ (by decide +kernel)) ggX2_bestToDeclare_X2_bringBack
theorem dX2_bestToDeclare_0 : decode cX2_bestToDeclare 0 = .ok (.aload_n 0, 1) := by decide +kernel
theorem dX2_bestToDeclare_1 : decode cX2_bestToDeclare 1 = .ok (.iconst 0, 1) := by decide +kernel
theorem dX2_bestToDeclare_2 : decode cX2_bestToDeclare 2 = .ok (.putfield 26, 3) := by decide +kernel
theorem dX2_bestToDeclare_5 : decode cX2_bestToDeclare 5 = .ok (.aload_n 0, 1) := by decide +kernel
theorem dX2_bestToDeclare_6 : decode cX2_bestToDeclare 6 = .ok (.iload_n 1, 1) := by decide +kernel
theorem dX2_bestToDeclare_7 : decode cX2_bestToDeclare 7 = .ok (.invokevirtual 105, 3) := by decide +kernel
theorem dX2_bestToDeclare_10 : decode cX2_bestToDeclare 10 = .ok (.ifCond .ne 9, 3) := by decide +kernel
theorem dX2_bestToDeclare_13 : decode cX2_bestToDeclare 13 = .ok (.aload_n 0, 1) := by decide +kernel
theorem dX2_bestToDeclare_14 : decode cX2_bestToDeclare 14 = .ok (.iconst 1, 1) := by decide +kernel
theorem dX2_bestToDeclare_15 : decode cX2_bestToDeclare 15 = .ok (.invokevirtual 99, 3) := by decide +kernel
theorem dX2_bestToDeclare_18 : decode cX2_bestToDeclare 18 = .ok (.ireturn, 1) := by decide +kernel
theorem dX2_bestToDeclare_19 : decode cX2_bestToDeclare 19 = .ok (.aload_n 0, 1) := by decide +kernel
theorem dX2_bestToDeclare_20 : decode cX2_bestToDeclare 20 = .ok (.iload_n 1, 1) := by decide +kernel
theorem dX2_bestToDeclare_21 : decode cX2_bestToDeclare 21 = .ok (.iconst 0, 1) := by decide +kernel
theorem dX2_bestToDeclare_22 : decode cX2_bestToDeclare 22 = .ok (.invokevirtual 43, 3) := by decide +kernel
theorem dX2_bestToDeclare_25 : decode cX2_bestToDeclare 25 = .ok (.ifCond .eq 5, 3) := by decide +kernel
theorem dX2_bestToDeclare_28 : decode cX2_bestToDeclare 28 = .ok (.iconst (-1), 1) := by decide +kernel
theorem dX2_bestToDeclare_29 : decode cX2_bestToDeclare 29 = .ok (.ireturn, 1) := by decide +kernel
theorem dX2_bestToDeclare_30 : decode cX2_bestToDeclare 30 = .ok (.iconst (-1), 1) := by decide +kernel
theorem dX2_bestToDeclare_31 : decode cX2_bestToDeclare 31 = .ok (.istore_n 2, 1) := by decide +kernel
theorem dX2_bestToDeclare_32 : decode cX2_bestToDeclare 32 = .ok (.bipush 101, 2) := by decide +kernel
theorem dX2_bestToDeclare_34 : decode cX2_bestToDeclare 34 = .ok (.istore_n 3, 1) := by decide +kernel
theorem dX2_bestToDeclare_35 : decode cX2_bestToDeclare 35 = .ok (.aload_n 0, 1) := by decide +kernel
theorem dX2_bestToDeclare_36 : decode cX2_bestToDeclare 36 = .ok (.invokevirtual 134, 3) := by decide +kernel
theorem dX2_bestToDeclare_39 : decode cX2_bestToDeclare 39 = .ok (.iconst 0, 1) := by decide +kernel
theorem dX2_bestToDeclare_40 : decode cX2_bestToDeclare 40 = .ok (.istore 4, 2) := by decide +kernel
theorem dX2_bestToDeclare_42 : decode cX2_bestToDeclare 42 = .ok (.iload 4, 2) := by decide +kernel
theorem dX2_bestToDeclare_44 : decode cX2_bestToDeclare 44 = .ok (.bipush 9, 2) := by decide +kernel
theorem dX2_bestToDeclare_46 : decode cX2_bestToDeclare 46 = .ok (.if_icmp .gt 49, 3) := by decide +kernel
theorem dX2_bestToDeclare_49 : decode cX2_bestToDeclare 49 = .ok (.aload_n 0, 1) := by decide +kernel
theorem dX2_bestToDeclare_50 : decode cX2_bestToDeclare 50 = .ok (.iload_n 1, 1) := by decide +kernel
theorem dX2_bestToDeclare_51 : decode cX2_bestToDeclare 51 = .ok (.iconst 2, 1) := by decide +kernel
theorem dX2_bestToDeclare_52 : decode cX2_bestToDeclare 52 = .ok (.iload 4, 2) := by decide +kernel
theorem dX2_bestToDeclare_54 : decode cX2_bestToDeclare 54 = .ok (.invokevirtual 63, 3) := by decide +kernel
theorem dX2_bestToDeclare_57 : decode cX2_bestToDeclare 57 = .ok (.aload_n 0, 1) := by decide +kernel
theorem dX2_bestToDeclare_58 : decode cX2_bestToDeclare 58 = .ok (.iload_n 1, 1) := by decide +kernel
theorem dX2_bestToDeclare_59 : decode cX2_bestToDeclare 59 = .ok (.invokevirtual 137, 3) := by decide +kernel
theorem dX2_bestToDeclare_62 : decode cX2_bestToDeclare 62 = .ok (.istore 5, 2) := by decide +kernel
theorem dX2_bestToDeclare_64 : decode cX2_bestToDeclare 64 = .ok (.aload_n 0, 1) := by decide +kernel
theorem dX2_bestToDeclare_65 : decode cX2_bestToDeclare 65 = .ok (.invokevirtual 140, 3) := by decide +kernel
theorem dX2_bestToDeclare_68 : decode cX2_bestToDeclare 68 = .ok (.iload 5, 2) := by decide +kernel
theorem dX2_bestToDeclare_70 : decode cX2_bestToDeclare 70 = .ok (.iconst (-1), 1) := by decide +kernel
theorem dX2_bestToDeclare_71 : decode cX2_bestToDeclare 71 = .ok (.if_icmp .eq 18, 3) := by decide +kernel
theorem dX2_bestToDeclare_74 : decode cX2_bestToDeclare 74 = .ok (.iload 5, 2) := by decide +kernel
theorem dX2_bestToDeclare_76 : decode cX2_bestToDeclare 76 = .ok (.iload_n 3, 1) := by decide +kernel
theorem dX2_bestToDeclare_77 : decode cX2_bestToDeclare 77 = .ok (.if_icmp .lt 6, 3) := by decide +kernel
theorem dX2_bestToDeclare_80 : decode cX2_bestToDeclare 80 = .ok (.goto 9, 3) := by decide +kernel
theorem dX2_bestToDeclare_83 : decode cX2_bestToDeclare 83 = .ok (.iload 4, 2) := by decide +kernel
theorem dX2_bestToDeclare_85 : decode cX2_bestToDeclare 85 = .ok (.istore_n 2, 1) := by decide +kernel
theorem dX2_bestToDeclare_86 : decode cX2_bestToDeclare 86 = .ok (.iload 5, 2) := by decide +kernel
theorem dX2_bestToDeclare_88 : decode cX2_bestToDeclare 88 = .ok (.istore_n 3, 1) := by decide +kernel
theorem dX2_bestToDeclare_89 : decode cX2_bestToDeclare 89 = .ok (.iinc 4 1, 3) := by decide +kernel
theorem dX2_bestToDeclare_92 : decode cX2_bestToDeclare 92 = .ok (.goto (-50), 3) := by decide +kernel
theorem dX2_bestToDeclare_95 : decode cX2_bestToDeclare 95 = .ok (.iload_n 2, 1) := by decide +kernel
theorem dX2_bestToDeclare_96 : decode cX2_bestToDeclare 96 = .ok (.ireturn, 1) := by decide +kernel
set_option maxRecDepth 20000 in
theorem ggX2_wanted_X2_keep : GoodIn wsX2_wanted wsX2_keep := goodIn_r _ [6, 1, 7, 8, 9, 10, 11, 91, 92, 93, 94, 95, 96, 97] (by decide +kernel) (by decide +kernel)
set_option maxRecDepth 20000 in
theorem gX2_wanted_X2_keep : GoodIn wsX2_wanted (wsV RX2 134 RX2 yX2_keep wsX2_keep) := goodIn_app (goodIn_of _ (by decide +kernel)) ggX2_wanted_X2_keep
set_option maxRecDepth 20000 in
theorem ggX2_wanted_X2_hire : GoodIn wsX2_wanted wsX2_hire := goodIn_r _ [15, 1, 16, 17, 18, 5, 19, 91, 92, 93, 94, 95, 96, 97] (by decide +kernel) (by decide +kernel)
set_option maxRecDepth 20000 in
theorem gX2_wanted_X2_hire : GoodIn wsX2_wanted (wsV RX2 102 RX2 yX2_hire wsX2_hire) := goodIn_app (goodIn_of _ (by decide +kernel)) ggX2_wanted_X2_hire
set_option maxRecDepth 20000 in
theorem ggX2_wanted_X2_minutesOn : GoodIn wsX2_wanted wsX2_minutesOn := goodIn_r _ [23, 24, 25, 26, 5, 27, 1, 28, 29, 30, 31, 32, 33, 34, 35, 36, 37, 38, 39, 40, 41, 42, 43, 44, 45, 46, 47, 48, 49, 50, 51, 52, 53, 54, 55, 56, 57, 58, 59, 60, 61, 16, 17, 18, 19, 62, 63, 64, 65, 66, 67, 68, 69, 70, 71, 72, 73, 74, 75, 76, 77, 78, 79, 80, 81, 82, 83, 84, 85, 86, 91, 92, 93, 94, 95, 96, 97] (by decide +kernel) (by decide +kernel)
set_option maxRecDepth 20000 in
theorem gX2_wanted_X2_minutesOn : GoodIn wsX2_wanted (wsV RX2 119 RX2 yX2_minutesOn wsX2_minutesOn) := goodIn_app (goodIn_of _ (by decide +kernel)) ggX2_wanted_X2_minutesOn
set_option maxRecDepth 20000 in
theorem ggX2_wanted_X2_bringBack : GoodIn wsX2_wanted wsX2_bringBack := goodIn_r _ [90, 7, 1, 8, 9, 10, 11, 91, 92, 93, 94, 95, 96, 97] (by decide +kernel) (by decide +kernel)
set_option maxRecDepth 20000 in
theorem gX2_wanted_X2_bringBack : GoodIn wsX2_wanted (wsV RX2 140 RX2 yX2_bringBack wsX2_bringBack) := goodIn_app (goodIn_of _ (by decide +kernel)) ggX2_wanted_X2_bringBack
theorem dX2_wanted_0 : decode cX2_wanted 0 = .ok (.iconst (-1), 1) := by decide +kernel
theorem dX2_wanted_1 : decode cX2_wanted 1 = .ok (.istore_n 1, 1) := by decide +kernel
theorem dX2_wanted_2 : decode cX2_wanted 2 = .ok (.aload_n 0, 1) := by decide +kernel
theorem dX2_wanted_3 : decode cX2_wanted 3 = .ok (.invokevirtual 134, 3) := by decide +kernel
theorem dX2_wanted_6 : decode cX2_wanted 6 = .ok (.iconst 0, 1) := by decide +kernel
theorem dX2_wanted_7 : decode cX2_wanted 7 = .ok (.istore_n 2, 1) := by decide +kernel
theorem dX2_wanted_8 : decode cX2_wanted 8 = .ok (.iload_n 2, 1) := by decide +kernel
theorem dX2_wanted_9 : decode cX2_wanted 9 = .ok (.iconst 4, 1) := by decide +kernel
theorem dX2_wanted_10 : decode cX2_wanted 10 = .ok (.if_icmp .gt 62, 3) := by decide +kernel
theorem dX2_wanted_13 : decode cX2_wanted 13 = .ok (.iload_n 1, 1) := by decide +kernel
theorem dX2_wanted_14 : decode cX2_wanted 14 = .ok (.iconst (-1), 1) := by decide +kernel
theorem dX2_wanted_15 : decode cX2_wanted 15 = .ok (.if_icmp .ne 57, 3) := by decide +kernel
theorem dX2_wanted_18 : decode cX2_wanted 18 = .ok (.aload_n 0, 1) := by decide +kernel
theorem dX2_wanted_19 : decode cX2_wanted 19 = .ok (.getfield 16, 3) := by decide +kernel
theorem dX2_wanted_22 : decode cX2_wanted 22 = .ok (.iconst 1, 1) := by decide +kernel
theorem dX2_wanted_23 : decode cX2_wanted 23 = .ok (.iaload, 1) := by decide +kernel
theorem dX2_wanted_24 : decode cX2_wanted 24 = .ok (.istore_n 3, 1) := by decide +kernel
theorem dX2_wanted_25 : decode cX2_wanted 25 = .ok (.iconst 0, 1) := by decide +kernel
theorem dX2_wanted_26 : decode cX2_wanted 26 = .ok (.istore 4, 2) := by decide +kernel
theorem dX2_wanted_28 : decode cX2_wanted 28 = .ok (.iload 4, 2) := by decide +kernel
theorem dX2_wanted_30 : decode cX2_wanted 30 = .ok (.iload_n 2, 1) := by decide +kernel
theorem dX2_wanted_31 : decode cX2_wanted 31 = .ok (.if_icmp .ge 13, 3) := by decide +kernel
theorem dX2_wanted_34 : decode cX2_wanted 34 = .ok (.aload_n 0, 1) := by decide +kernel
theorem dX2_wanted_35 : decode cX2_wanted 35 = .ok (.invokevirtual 102, 3) := by decide +kernel
theorem dX2_wanted_38 : decode cX2_wanted 38 = .ok (.iinc 4 1, 3) := by decide +kernel
theorem dX2_wanted_41 : decode cX2_wanted 41 = .ok (.goto (-13), 3) := by decide +kernel
theorem dX2_wanted_44 : decode cX2_wanted 44 = .ok (.aload_n 0, 1) := by decide +kernel
theorem dX2_wanted_45 : decode cX2_wanted 45 = .ok (.bipush 60, 2) := by decide +kernel
theorem dX2_wanted_47 : decode cX2_wanted 47 = .ok (.invokevirtual 119, 3) := by decide +kernel
theorem dX2_wanted_50 : decode cX2_wanted 50 = .ok (.aload_n 0, 1) := by decide +kernel
theorem dX2_wanted_51 : decode cX2_wanted 51 = .ok (.getfield 16, 3) := by decide +kernel
theorem dX2_wanted_54 : decode cX2_wanted 54 = .ok (.iconst 1, 1) := by decide +kernel
theorem dX2_wanted_55 : decode cX2_wanted 55 = .ok (.iaload, 1) := by decide +kernel
theorem dX2_wanted_56 : decode cX2_wanted 56 = .ok (.iload_n 3, 1) := by decide +kernel
theorem dX2_wanted_57 : decode cX2_wanted 57 = .ok (.if_icmp .ne 5, 3) := by decide +kernel
theorem dX2_wanted_60 : decode cX2_wanted 60 = .ok (.iload_n 2, 1) := by decide +kernel
theorem dX2_wanted_61 : decode cX2_wanted 61 = .ok (.istore_n 1, 1) := by decide +kernel
theorem dX2_wanted_62 : decode cX2_wanted 62 = .ok (.aload_n 0, 1) := by decide +kernel
theorem dX2_wanted_63 : decode cX2_wanted 63 = .ok (.invokevirtual 140, 3) := by decide +kernel
theorem dX2_wanted_66 : decode cX2_wanted 66 = .ok (.iinc 2 1, 3) := by decide +kernel
theorem dX2_wanted_69 : decode cX2_wanted 69 = .ok (.goto (-61), 3) := by decide +kernel
theorem dX2_wanted_72 : decode cX2_wanted 72 = .ok (.iload_n 1, 1) := by decide +kernel
theorem dX2_wanted_73 : decode cX2_wanted 73 = .ok (.ireturn, 1) := by decide +kernel
set_option maxRecDepth 20000 in
theorem ggX2_guardsWanted_X2_wanted : GoodIn wsX2_guardsWanted wsX2_wanted := goodIn_r _ [5, 6, 7, 8, 9, 4, 10, 11, 12, 13, 14, 15, 16, 17, 18, 19, 20, 21, 22, 23, 24, 25, 26, 27, 28, 29, 30, 31, 32, 33, 34, 35, 36, 37, 38, 39, 40, 41, 42, 43, 44, 45, 46, 47, 48, 49, 50, 51, 52, 53, 54, 55, 56, 57, 58, 59, 60, 61, 62, 63, 64, 65, 66, 67, 68, 69, 70, 71, 72, 73, 74, 75, 76, 77, 78, 79, 80, 81, 82, 83, 84, 85, 86, 87, 88, 89, 90, 91, 92, 93, 94, 100, 101, 102, 103, 104, 105, 106] (by decide +kernel) (by decide +kernel)
set_option maxRecDepth 20000 in
theorem gX2_guardsWanted_X2_wanted : GoodIn wsX2_guardsWanted (wsV RX2 149 RX2 yX2_wanted wsX2_wanted) := goodIn_app (goodIn_of _ (by decide +kernel)) ggX2_guardsWanted_X2_wanted
set_option maxRecDepth 20000 in
theorem ggX2_guardsWanted_X2_told : GoodIn wsX2_guardsWanted wsX2_told := goodIn_r _ [98, 99, 100, 101, 102, 103, 104, 105, 106] (by decide +kernel) (by decide +kernel)
set_option maxRecDepth 20000 in
theorem gX2_guardsWanted_X2_told : GoodIn wsX2_guardsWanted (wsV RX2 122 RX2 yX2_told wsX2_told) := goodIn_app (goodIn_of _ (by decide +kernel)) ggX2_guardsWanted_X2_told
theorem dX2_guardsWanted_0 : decode cX2_guardsWanted 0 = .ok (.aload_n 0, 1) := by decide +kernel
theorem dX2_guardsWanted_1 : decode cX2_guardsWanted 1 = .ok (.aload_n 0, 1) := by decide +kernel
theorem dX2_guardsWanted_2 : decode cX2_guardsWanted 2 = .ok (.invokevirtual 149, 3) := by decide +kernel
theorem dX2_guardsWanted_5 : decode cX2_guardsWanted 5 = .ok (.invokevirtual 122, 3) := by decide +kernel
theorem dX2_guardsWanted_8 : decode cX2_guardsWanted 8 = .ok (.ireturn, 1) := by decide +kernel
set_option maxRecDepth 20000 in
theorem ggX2_meanAlertness_X2_gu : GoodIn wsX2_meanAlertness wsX2_gu := goodIn_r _ [7, 2, 8, 9, 10, 11, 12, 13, 14] (by decide +kernel) (by decide +kernel)
set_option maxRecDepth 20000 in
theorem gX2_meanAlertness_X2_gu : GoodIn wsX2_meanAlertness (wsV RX2 56 RX2 yX2_gu wsX2_gu) := goodIn_app (goodIn_of _ (by decide +kernel)) ggX2_meanAlertness_X2_gu
theorem dX2_meanAlertness_0 : decode cX2_meanAlertness 0 = .ok (.aload_n 0, 1) := by decide +kernel
theorem dX2_meanAlertness_1 : decode cX2_meanAlertness 1 = .ok (.iconst 0, 1) := by decide +kernel
theorem dX2_meanAlertness_2 : decode cX2_meanAlertness 2 = .ok (.putfield 26, 3) := by decide +kernel
theorem dX2_meanAlertness_5 : decode cX2_meanAlertness 5 = .ok (.iconst 0, 1) := by decide +kernel
theorem dX2_meanAlertness_6 : decode cX2_meanAlertness 6 = .ok (.istore_n 1, 1) := by decide +kernel
theorem dX2_meanAlertness_7 : decode cX2_meanAlertness 7 = .ok (.iconst 0, 1) := by decide +kernel
theorem dX2_meanAlertness_8 : decode cX2_meanAlertness 8 = .ok (.istore_n 2, 1) := by decide +kernel
theorem dX2_meanAlertness_9 : decode cX2_meanAlertness 9 = .ok (.iload_n 2, 1) := by decide +kernel
theorem dX2_meanAlertness_10 : decode cX2_meanAlertness 10 = .ok (.aload_n 0, 1) := by decide +kernel
theorem dX2_meanAlertness_11 : decode cX2_meanAlertness 11 = .ok (.getfield 16, 3) := by decide +kernel
theorem dX2_meanAlertness_14 : decode cX2_meanAlertness 14 = .ok (.iconst 3, 1) := by decide +kernel
theorem dX2_meanAlertness_15 : decode cX2_meanAlertness 15 = .ok (.iaload, 1) := by decide +kernel
theorem dX2_meanAlertness_16 : decode cX2_meanAlertness 16 = .ok (.if_icmp .ge 18, 3) := by decide +kernel
theorem dX2_meanAlertness_19 : decode cX2_meanAlertness 19 = .ok (.iload_n 1, 1) := by decide +kernel
theorem dX2_meanAlertness_20 : decode cX2_meanAlertness 20 = .ok (.aload_n 0, 1) := by decide +kernel
theorem dX2_meanAlertness_21 : decode cX2_meanAlertness 21 = .ok (.iload_n 2, 1) := by decide +kernel
theorem dX2_meanAlertness_22 : decode cX2_meanAlertness 22 = .ok (.iconst 0, 1) := by decide +kernel
theorem dX2_meanAlertness_23 : decode cX2_meanAlertness 23 = .ok (.invokevirtual 56, 3) := by decide +kernel
theorem dX2_meanAlertness_26 : decode cX2_meanAlertness 26 = .ok (.iadd, 1) := by decide +kernel
theorem dX2_meanAlertness_27 : decode cX2_meanAlertness 27 = .ok (.istore_n 1, 1) := by decide +kernel
theorem dX2_meanAlertness_28 : decode cX2_meanAlertness 28 = .ok (.iinc 2 1, 3) := by decide +kernel
theorem dX2_meanAlertness_31 : decode cX2_meanAlertness 31 = .ok (.goto (-22), 3) := by decide +kernel
theorem dX2_meanAlertness_34 : decode cX2_meanAlertness 34 = .ok (.aload_n 0, 1) := by decide +kernel
theorem dX2_meanAlertness_35 : decode cX2_meanAlertness 35 = .ok (.getfield 16, 3) := by decide +kernel
theorem dX2_meanAlertness_38 : decode cX2_meanAlertness 38 = .ok (.iconst 3, 1) := by decide +kernel
theorem dX2_meanAlertness_39 : decode cX2_meanAlertness 39 = .ok (.iaload, 1) := by decide +kernel
theorem dX2_meanAlertness_40 : decode cX2_meanAlertness 40 = .ok (.ifCond .ne 7, 3) := by decide +kernel
theorem dX2_meanAlertness_43 : decode cX2_meanAlertness 43 = .ok (.dconst 0, 1) := by decide +kernel
theorem dX2_meanAlertness_44 : decode cX2_meanAlertness 44 = .ok (.goto 13, 3) := by decide +kernel
theorem dX2_meanAlertness_47 : decode cX2_meanAlertness 47 = .ok (.iload_n 1, 1) := by decide +kernel
theorem dX2_meanAlertness_48 : decode cX2_meanAlertness 48 = .ok (.i2d, 1) := by decide +kernel
theorem dX2_meanAlertness_49 : decode cX2_meanAlertness 49 = .ok (.aload_n 0, 1) := by decide +kernel
theorem dX2_meanAlertness_50 : decode cX2_meanAlertness 50 = .ok (.getfield 16, 3) := by decide +kernel
theorem dX2_meanAlertness_53 : decode cX2_meanAlertness 53 = .ok (.iconst 3, 1) := by decide +kernel
theorem dX2_meanAlertness_54 : decode cX2_meanAlertness 54 = .ok (.iaload, 1) := by decide +kernel
theorem dX2_meanAlertness_55 : decode cX2_meanAlertness 55 = .ok (.i2d, 1) := by decide +kernel
theorem dX2_meanAlertness_56 : decode cX2_meanAlertness 56 = .ok (.ddiv, 1) := by decide +kernel
theorem dX2_meanAlertness_57 : decode cX2_meanAlertness 57 = .ok (.dreturn, 1) := by decide +kernel
set_option maxRecDepth 20000 in
theorem ggX2_digest_X2_count : GoodIn wsX2_digest wsX2_count := goodIn_r _ [11, 4, 12, 13, 14, 10, 15, 3, 123, 124, 125, 126, 127, 128, 129] (by decide +kernel) (by decide +kernel)
set_option maxRecDepth 20000 in
theorem gX2_digest_X2_count : GoodIn wsX2_digest (wsV RX2 116 RX2 yX2_count wsX2_count) := goodIn_app (goodIn_of _ (by decide +kernel)) ggX2_digest_X2_count
set_option maxRecDepth 20000 in
theorem ggX2_digest_X2_loud : GoodIn wsX2_digest wsX2_loud := goodIn_r _ [19, 4, 20, 12, 13, 14, 10, 15, 3, 123, 124, 125, 126, 127, 128, 129] (by decide +kernel) (by decide +kernel)
set_option maxRecDepth 20000 in
theorem gX2_digest_X2_loud : GoodIn wsX2_digest (wsV RX2 59 RX2 yX2_loud wsX2_loud) := goodIn_app (goodIn_of _ (by decide +kernel)) ggX2_digest_X2_loud
set_option maxRecDepth 20000 in
theorem ggX2_digest_X2_first : GoodIn wsX2_digest wsX2_first := goodIn_r _ [24, 4, 12, 13, 14, 10, 15, 3, 123, 124, 125, 126, 127, 128, 129] (by decide +kernel) (by decide +kernel)
set_option maxRecDepth 20000 in
theorem gX2_digest_X2_first : GoodIn wsX2_digest (wsV RX2 74 RX2 yX2_first wsX2_first) := goodIn_app (goodIn_of _ (by decide +kernel)) ggX2_digest_X2_first
set_option maxRecDepth 20000 in
theorem ggX2_digest_X2_alertest : GoodIn wsX2_digest wsX2_alertest := goodIn_r _ [28, 3, 29, 30, 31, 10, 32, 123, 124, 125, 126, 127, 128, 129] (by decide +kernel) (by decide +kernel)
set_option maxRecDepth 20000 in
theorem gX2_digest_X2_alertest : GoodIn wsX2_digest (wsV RX2 131 RX2 yX2_alertest wsX2_alertest) := goodIn_app (goodIn_of _ (by decide +kernel)) ggX2_digest_X2_alertest
set_option maxRecDepth 20000 in
theorem ggX2_digest_X2_sleepers : GoodIn wsX2_digest wsX2_sleepers := goodIn_r _ [36, 37, 38, 39, 10, 40, 3, 41, 42, 43, 44, 45, 46, 47, 48, 49, 50, 51, 52, 53, 54, 4, 29, 30, 31, 32, 55, 56, 57, 58, 12, 13, 14, 15, 59, 60, 61, 62, 63, 64, 65, 66, 67, 68, 69, 70, 71, 72, 73, 74, 21, 22, 23, 24, 75, 76, 77, 78, 79, 80, 81, 82, 16, 17, 18, 19, 20, 83, 84, 85, 86, 87, 88, 89, 90, 91, 92, 93, 94, 95, 96, 97, 98, 7, 8, 9, 11, 99, 100, 101, 102, 123, 124, 125, 126, 127, 128, 129] (by decide +kernel) (by decide +kernel)
set_option maxRecDepth 20000 in
theorem gX2_digest_X2_sleepers : GoodIn wsX2_digest (wsV RX2 146 RX2 yX2_sleepers wsX2_sleepers) := goodIn_app (goodIn_of _ (by decide +kernel)) ggX2_digest_X2_sleepers
set_option maxRecDepth 20000 in
theorem ggX2_digest_X2_wanted : GoodIn wsX2_digest wsX2_wanted := goodIn_r _ [106, 3, 37, 38, 39, 10, 40, 41, 42, 43, 44, 45, 107, 108, 109, 110, 75, 76, 77, 78, 46, 47, 48, 49, 50, 51, 52, 53, 54, 4, 29, 30, 31, 32, 55, 56, 57, 58, 12, 13, 14, 15, 59, 60, 61, 62, 63, 64, 65, 66, 67, 68, 69, 70, 71, 72, 73, 74, 21, 22, 23, 24, 79, 80, 81, 82, 16, 17, 18, 19, 20, 83, 84, 85, 86, 87, 88, 89, 90, 91, 92, 93, 94, 95, 96, 97, 98, 99, 100, 101, 102, 123, 124, 125, 126, 127, 128, 129] (by decide +kernel) (by decide +kernel)
set_option maxRecDepth 20000 in
theorem gX2_digest_X2_wanted : GoodIn wsX2_digest (wsV RX2 149 RX2 yX2_wanted wsX2_wanted) := goodIn_app (goodIn_of _ (by decide +kernel)) ggX2_digest_X2_wanted
set_option maxRecDepth 20000 in
theorem ggX2_digest_X2_tr : GoodIn wsX2_digest wsX2_tr := goodIn_r _ [15, 3, 123, 124, 125, 126, 127, 128, 129] (by decide +kernel) (by decide +kernel)
set_option maxRecDepth 20000 in
theorem gX2_digest_X2_tr : GoodIn wsX2_digest (wsV RX2 43 RX2 yX2_tr wsX2_tr) := goodIn_app (goodIn_of _ (by decide +kernel)) ggX2_digest_X2_tr
set_option maxRecDepth 20000 in
theorem ggX2_digest_X2_hidden : GoodIn wsX2_digest wsX2_hidden := goodIn_r _ [97, 98, 87, 88, 73, 89, 12, 13, 14, 10, 15, 3, 123, 124, 125, 126, 127, 128, 129] (by decide +kernel) (by decide +kernel)
set_option maxRecDepth 20000 in
theorem gX2_digest_X2_hidden : GoodIn wsX2_digest (wsV RX2 52 RX2 yX2_hidden wsX2_hidden) := goodIn_app (goodIn_of _ (by decide +kernel)) ggX2_digest_X2_hidden
set_option maxRecDepth 20000 in
theorem ggX2_digest_X2_place : GoodIn wsX2_digest wsX2_place := goodIn_r _ [114, 12, 13, 14, 10, 15, 3, 123, 124, 125, 126, 127, 128, 129] (by decide +kernel) (by decide +kernel)
set_option maxRecDepth 20000 in
theorem gX2_digest_X2_place : GoodIn wsX2_digest (wsV RX2 125 RX2 yX2_place wsX2_place) := goodIn_app (goodIn_of _ (by decide +kernel)) ggX2_digest_X2_place
set_option maxRecDepth 20000 in
theorem ggX2_digest_X2_takes : GoodIn wsX2_digest wsX2_takes := goodIn_r _ [82, 12, 13, 14, 10, 15, 3, 16, 17, 18, 19, 4, 20, 123, 124, 125, 126, 127, 128, 129] (by decide +kernel) (by decide +kernel)
set_option maxRecDepth 20000 in
theorem gX2_digest_X2_takes : GoodIn wsX2_digest (wsV RX2 80 RX2 yX2_takes wsX2_takes) := goodIn_app (goodIn_of _ (by decide +kernel)) ggX2_digest_X2_takes
set_option maxRecDepth 20000 in
theorem ggX2_digest_X2_until : GoodIn wsX2_digest wsX2_until := goodIn_r _ [118, 37, 38, 39, 10, 40, 3, 41, 42, 43, 44, 45, 119, 120, 121, 122, 12, 13, 14, 15, 50, 51, 52, 53, 54, 4, 29, 30, 31, 32, 55, 56, 57, 58, 59, 60, 61, 62, 63, 64, 65, 66, 67, 68, 69, 70, 71, 72, 73, 74, 21, 22, 23, 24, 75, 76, 77, 78, 79, 80, 81, 82, 16, 17, 18, 19, 20, 83, 84, 85, 86, 87, 88, 89, 90, 91, 92, 93, 94, 95, 96, 97, 98, 99, 100, 101, 102, 123, 124, 125, 126, 127, 128, 129] (by decide +kernel) (by decide +kernel)
set_option maxRecDepth 20000 in
theorem gX2_digest_X2_until : GoodIn wsX2_digest (wsV RX2 143 RX2 yX2_until wsX2_until) := goodIn_app (goodIn_of _ (by decide +kernel)) ggX2_digest_X2_until
set_option maxRecDepth 20000 in
theorem ggX2_digest_X2_gu : GoodIn wsX2_digest wsX2_gu := goodIn_r _ [32, 3, 123, 124, 125, 126, 127, 128, 129] (by decide +kernel) (by decide +kernel)
set_option maxRecDepth 20000 in
theorem gX2_digest_X2_gu : GoodIn wsX2_digest (wsV RX2 56 RX2 yX2_gu wsX2_gu) := goodIn_app (goodIn_of _ (by decide +kernel)) ggX2_digest_X2_gu
theorem dX2_digest_0 : decode cX2_digest 0 = .ok (.aload_n 0, 1) := by decide +kernel
theorem dX2_digest_1 : decode cX2_digest 1 = .ok (.iconst 0, 1) := by decide +kernel
theorem dX2_digest_2 : decode cX2_digest 2 = .ok (.putfield 26, 3) := by decide +kernel
theorem dX2_digest_5 : decode cX2_digest 5 = .ok (.bipush 13, 2) := by decide +kernel
theorem dX2_digest_7 : decode cX2_digest 7 = .ok (.newarray .int, 2) := by decide +kernel
theorem dX2_digest_9 : decode cX2_digest 9 = .ok (.dup, 1) := by decide +kernel
theorem dX2_digest_10 : decode cX2_digest 10 = .ok (.iconst 0, 1) := by decide +kernel
theorem dX2_digest_11 : decode cX2_digest 11 = .ok (.aload_n 0, 1) := by decide +kernel
theorem dX2_digest_12 : decode cX2_digest 12 = .ok (.getfield 16, 3) := by decide +kernel
theorem dX2_digest_15 : decode cX2_digest 15 = .ok (.iconst 0, 1) := by decide +kernel
theorem dX2_digest_16 : decode cX2_digest 16 = .ok (.iaload, 1) := by decide +kernel
theorem dX2_digest_17 : decode cX2_digest 17 = .ok (.iastore, 1) := by decide +kernel
theorem dX2_digest_18 : decode cX2_digest 18 = .ok (.dup, 1) := by decide +kernel
theorem dX2_digest_19 : decode cX2_digest 19 = .ok (.iconst 1, 1) := by decide +kernel
theorem dX2_digest_20 : decode cX2_digest 20 = .ok (.aload_n 0, 1) := by decide +kernel
theorem dX2_digest_21 : decode cX2_digest 21 = .ok (.getfield 30, 3) := by decide +kernel
theorem dX2_digest_24 : decode cX2_digest 24 = .ok (.iastore, 1) := by decide +kernel
theorem dX2_digest_25 : decode cX2_digest 25 = .ok (.dup, 1) := by decide +kernel
theorem dX2_digest_26 : decode cX2_digest 26 = .ok (.iconst 2, 1) := by decide +kernel
theorem dX2_digest_27 : decode cX2_digest 27 = .ok (.aload_n 0, 1) := by decide +kernel
theorem dX2_digest_28 : decode cX2_digest 28 = .ok (.iconst 0, 1) := by decide +kernel
theorem dX2_digest_29 : decode cX2_digest 29 = .ok (.invokevirtual 116, 3) := by decide +kernel
theorem dX2_digest_32 : decode cX2_digest 32 = .ok (.iastore, 1) := by decide +kernel
theorem dX2_digest_33 : decode cX2_digest 33 = .ok (.dup, 1) := by decide +kernel
theorem dX2_digest_34 : decode cX2_digest 34 = .ok (.iconst 3, 1) := by decide +kernel
theorem dX2_digest_35 : decode cX2_digest 35 = .ok (.aload_n 0, 1) := by decide +kernel
theorem dX2_digest_36 : decode cX2_digest 36 = .ok (.iconst 3, 1) := by decide +kernel
theorem dX2_digest_37 : decode cX2_digest 37 = .ok (.invokevirtual 116, 3) := by decide +kernel
theorem dX2_digest_40 : decode cX2_digest 40 = .ok (.iastore, 1) := by decide +kernel
theorem dX2_digest_41 : decode cX2_digest 41 = .ok (.dup, 1) := by decide +kernel
theorem dX2_digest_42 : decode cX2_digest 42 = .ok (.iconst 4, 1) := by decide +kernel
theorem dX2_digest_43 : decode cX2_digest 43 = .ok (.aload_n 0, 1) := by decide +kernel
theorem dX2_digest_44 : decode cX2_digest 44 = .ok (.iconst 4, 1) := by decide +kernel
theorem dX2_digest_45 : decode cX2_digest 45 = .ok (.invokevirtual 116, 3) := by decide +kernel
theorem dX2_digest_48 : decode cX2_digest 48 = .ok (.iastore, 1) := by decide +kernel
theorem dX2_digest_49 : decode cX2_digest 49 = .ok (.dup, 1) := by decide +kernel
theorem dX2_digest_50 : decode cX2_digest 50 = .ok (.iconst 5, 1) := by decide +kernel
theorem dX2_digest_51 : decode cX2_digest 51 = .ok (.aload_n 0, 1) := by decide +kernel
theorem dX2_digest_52 : decode cX2_digest 52 = .ok (.getfield 16, 3) := by decide +kernel
theorem dX2_digest_55 : decode cX2_digest 55 = .ok (.iconst 1, 1) := by decide +kernel
theorem dX2_digest_56 : decode cX2_digest 56 = .ok (.iaload, 1) := by decide +kernel
theorem dX2_digest_57 : decode cX2_digest 57 = .ok (.iastore, 1) := by decide +kernel
theorem dX2_digest_58 : decode cX2_digest 58 = .ok (.dup, 1) := by decide +kernel
theorem dX2_digest_59 : decode cX2_digest 59 = .ok (.bipush 6, 2) := by decide +kernel
theorem dX2_digest_61 : decode cX2_digest 61 = .ok (.aload_n 0, 1) := by decide +kernel
theorem dX2_digest_62 : decode cX2_digest 62 = .ok (.getfield 16, 3) := by decide +kernel
theorem dX2_digest_65 : decode cX2_digest 65 = .ok (.iconst 2, 1) := by decide +kernel
theorem dX2_digest_66 : decode cX2_digest 66 = .ok (.iaload, 1) := by decide +kernel
theorem dX2_digest_67 : decode cX2_digest 67 = .ok (.iastore, 1) := by decide +kernel
theorem dX2_digest_68 : decode cX2_digest 68 = .ok (.dup, 1) := by decide +kernel
theorem dX2_digest_69 : decode cX2_digest 69 = .ok (.bipush 7, 2) := by decide +kernel
theorem dX2_digest_71 : decode cX2_digest 71 = .ok (.aload_n 0, 1) := by decide +kernel
theorem dX2_digest_72 : decode cX2_digest 72 = .ok (.invokevirtual 59, 3) := by decide +kernel
theorem dX2_digest_75 : decode cX2_digest 75 = .ok (.iastore, 1) := by decide +kernel
theorem dX2_digest_76 : decode cX2_digest 76 = .ok (.dup, 1) := by decide +kernel
theorem dX2_digest_77 : decode cX2_digest 77 = .ok (.bipush 8, 2) := by decide +kernel
theorem dX2_digest_79 : decode cX2_digest 79 = .ok (.aload_n 0, 1) := by decide +kernel
theorem dX2_digest_80 : decode cX2_digest 80 = .ok (.invokevirtual 74, 3) := by decide +kernel
theorem dX2_digest_83 : decode cX2_digest 83 = .ok (.iastore, 1) := by decide +kernel
theorem dX2_digest_84 : decode cX2_digest 84 = .ok (.dup, 1) := by decide +kernel
theorem dX2_digest_85 : decode cX2_digest 85 = .ok (.bipush 9, 2) := by decide +kernel
theorem dX2_digest_87 : decode cX2_digest 87 = .ok (.aload_n 0, 1) := by decide +kernel
theorem dX2_digest_88 : decode cX2_digest 88 = .ok (.getfield 16, 3) := by decide +kernel
theorem dX2_digest_91 : decode cX2_digest 91 = .ok (.iconst 3, 1) := by decide +kernel
theorem dX2_digest_92 : decode cX2_digest 92 = .ok (.iaload, 1) := by decide +kernel
theorem dX2_digest_93 : decode cX2_digest 93 = .ok (.iastore, 1) := by decide +kernel
theorem dX2_digest_94 : decode cX2_digest 94 = .ok (.dup, 1) := by decide +kernel
theorem dX2_digest_95 : decode cX2_digest 95 = .ok (.bipush 10, 2) := by decide +kernel
theorem dX2_digest_97 : decode cX2_digest 97 = .ok (.aload_n 0, 1) := by decide +kernel
theorem dX2_digest_98 : decode cX2_digest 98 = .ok (.invokevirtual 131, 3) := by decide +kernel
theorem dX2_digest_101 : decode cX2_digest 101 = .ok (.iastore, 1) := by decide +kernel
theorem dX2_digest_102 : decode cX2_digest 102 = .ok (.dup, 1) := by decide +kernel
theorem dX2_digest_103 : decode cX2_digest 103 = .ok (.bipush 11, 2) := by decide +kernel
theorem dX2_digest_105 : decode cX2_digest 105 = .ok (.aload_n 0, 1) := by decide +kernel
theorem dX2_digest_106 : decode cX2_digest 106 = .ok (.bipush 30, 2) := by decide +kernel
theorem dX2_digest_108 : decode cX2_digest 108 = .ok (.invokevirtual 146, 3) := by decide +kernel
theorem dX2_digest_111 : decode cX2_digest 111 = .ok (.iastore, 1) := by decide +kernel
theorem dX2_digest_112 : decode cX2_digest 112 = .ok (.dup, 1) := by decide +kernel
theorem dX2_digest_113 : decode cX2_digest 113 = .ok (.bipush 12, 2) := by decide +kernel
theorem dX2_digest_115 : decode cX2_digest 115 = .ok (.aload_n 0, 1) := by decide +kernel
theorem dX2_digest_116 : decode cX2_digest 116 = .ok (.invokevirtual 149, 3) := by decide +kernel
theorem dX2_digest_119 : decode cX2_digest 119 = .ok (.iastore, 1) := by decide +kernel
theorem dX2_digest_120 : decode cX2_digest 120 = .ok (.astore_n 1, 1) := by decide +kernel
theorem dX2_digest_121 : decode cX2_digest 121 = .ok (.ldc2_w 152, 3) := by decide +kernel
theorem dX2_digest_124 : decode cX2_digest 124 = .ok (.lstore_n 2, 1) := by decide +kernel
theorem dX2_digest_125 : decode cX2_digest 125 = .ok (.aload_n 1, 1) := by decide +kernel
theorem dX2_digest_126 : decode cX2_digest 126 = .ok (.astore 4, 2) := by decide +kernel
theorem dX2_digest_128 : decode cX2_digest 128 = .ok (.aload 4, 2) := by decide +kernel
theorem dX2_digest_130 : decode cX2_digest 130 = .ok (.arraylength, 1) := by decide +kernel
theorem dX2_digest_131 : decode cX2_digest 131 = .ok (.istore 5, 2) := by decide +kernel
theorem dX2_digest_133 : decode cX2_digest 133 = .ok (.iconst 0, 1) := by decide +kernel
theorem dX2_digest_134 : decode cX2_digest 134 = .ok (.istore 6, 2) := by decide +kernel
theorem dX2_digest_136 : decode cX2_digest 136 = .ok (.iload 6, 2) := by decide +kernel
theorem dX2_digest_138 : decode cX2_digest 138 = .ok (.iload 5, 2) := by decide +kernel
theorem dX2_digest_140 : decode cX2_digest 140 = .ok (.if_icmp .ge 26, 3) := by decide +kernel
theorem dX2_digest_143 : decode cX2_digest 143 = .ok (.aload 4, 2) := by decide +kernel
theorem dX2_digest_145 : decode cX2_digest 145 = .ok (.iload 6, 2) := by decide +kernel
theorem dX2_digest_147 : decode cX2_digest 147 = .ok (.iaload, 1) := by decide +kernel
theorem dX2_digest_148 : decode cX2_digest 148 = .ok (.istore 7, 2) := by decide +kernel
theorem dX2_digest_150 : decode cX2_digest 150 = .ok (.lload_n 2, 1) := by decide +kernel
theorem dX2_digest_151 : decode cX2_digest 151 = .ok (.ldc2_w 154, 3) := by decide +kernel
theorem dX2_digest_154 : decode cX2_digest 154 = .ok (.lmul, 1) := by decide +kernel
theorem dX2_digest_155 : decode cX2_digest 155 = .ok (.iload 7, 2) := by decide +kernel
theorem dX2_digest_157 : decode cX2_digest 157 = .ok (.i2l, 1) := by decide +kernel
theorem dX2_digest_158 : decode cX2_digest 158 = .ok (.ladd, 1) := by decide +kernel
theorem dX2_digest_159 : decode cX2_digest 159 = .ok (.lstore_n 2, 1) := by decide +kernel
theorem dX2_digest_160 : decode cX2_digest 160 = .ok (.iinc 6 1, 3) := by decide +kernel
theorem dX2_digest_163 : decode cX2_digest 163 = .ok (.goto (-27), 3) := by decide +kernel
theorem dX2_digest_166 : decode cX2_digest 166 = .ok (.iconst 0, 1) := by decide +kernel
theorem dX2_digest_167 : decode cX2_digest 167 = .ok (.istore 4, 2) := by decide +kernel
theorem dX2_digest_169 : decode cX2_digest 169 = .ok (.iload 4, 2) := by decide +kernel
theorem dX2_digest_171 : decode cX2_digest 171 = .ok (.aload_n 0, 1) := by decide +kernel
theorem dX2_digest_172 : decode cX2_digest 172 = .ok (.getfield 30, 3) := by decide +kernel
theorem dX2_digest_175 : decode cX2_digest 175 = .ok (.if_icmp .ge 113, 3) := by decide +kernel
theorem dX2_digest_178 : decode cX2_digest 178 = .ok (.bipush 6, 2) := by decide +kernel
theorem dX2_digest_180 : decode cX2_digest 180 = .ok (.newarray .int, 2) := by decide +kernel
theorem dX2_digest_182 : decode cX2_digest 182 = .ok (.dup, 1) := by decide +kernel
theorem dX2_digest_183 : decode cX2_digest 183 = .ok (.iconst 0, 1) := by decide +kernel
theorem dX2_digest_184 : decode cX2_digest 184 = .ok (.aload_n 0, 1) := by decide +kernel
theorem dX2_digest_185 : decode cX2_digest 185 = .ok (.iload 4, 2) := by decide +kernel
theorem dX2_digest_187 : decode cX2_digest 187 = .ok (.iconst 0, 1) := by decide +kernel
theorem dX2_digest_188 : decode cX2_digest 188 = .ok (.invokevirtual 43, 3) := by decide +kernel
theorem dX2_digest_191 : decode cX2_digest 191 = .ok (.iastore, 1) := by decide +kernel
theorem dX2_digest_192 : decode cX2_digest 192 = .ok (.dup, 1) := by decide +kernel
theorem dX2_digest_193 : decode cX2_digest 193 = .ok (.iconst 1, 1) := by decide +kernel
theorem dX2_digest_194 : decode cX2_digest 194 = .ok (.aload_n 0, 1) := by decide +kernel
theorem dX2_digest_195 : decode cX2_digest 195 = .ok (.iload 4, 2) := by decide +kernel
theorem dX2_digest_197 : decode cX2_digest 197 = .ok (.invokevirtual 52, 3) := by decide +kernel
theorem dX2_digest_200 : decode cX2_digest 200 = .ok (.iastore, 1) := by decide +kernel
theorem dX2_digest_201 : decode cX2_digest 201 = .ok (.dup, 1) := by decide +kernel
theorem dX2_digest_202 : decode cX2_digest 202 = .ok (.iconst 2, 1) := by decide +kernel
theorem dX2_digest_203 : decode cX2_digest 203 = .ok (.aload_n 0, 1) := by decide +kernel
theorem dX2_digest_204 : decode cX2_digest 204 = .ok (.iload 4, 2) := by decide +kernel
theorem dX2_digest_206 : decode cX2_digest 206 = .ok (.iconst 1, 1) := by decide +kernel
theorem dX2_digest_207 : decode cX2_digest 207 = .ok (.invokevirtual 43, 3) := by decide +kernel
theorem dX2_digest_210 : decode cX2_digest 210 = .ok (.iastore, 1) := by decide +kernel
theorem dX2_digest_211 : decode cX2_digest 211 = .ok (.dup, 1) := by decide +kernel
theorem dX2_digest_212 : decode cX2_digest 212 = .ok (.iconst 3, 1) := by decide +kernel
theorem dX2_digest_213 : decode cX2_digest 213 = .ok (.aload_n 0, 1) := by decide +kernel
theorem dX2_digest_214 : decode cX2_digest 214 = .ok (.iload 4, 2) := by decide +kernel
theorem dX2_digest_216 : decode cX2_digest 216 = .ok (.invokevirtual 125, 3) := by decide +kernel
theorem dX2_digest_219 : decode cX2_digest 219 = .ok (.iastore, 1) := by decide +kernel
theorem dX2_digest_220 : decode cX2_digest 220 = .ok (.dup, 1) := by decide +kernel
theorem dX2_digest_221 : decode cX2_digest 221 = .ok (.iconst 4, 1) := by decide +kernel
theorem dX2_digest_222 : decode cX2_digest 222 = .ok (.aload_n 0, 1) := by decide +kernel
theorem dX2_digest_223 : decode cX2_digest 223 = .ok (.iload 4, 2) := by decide +kernel
theorem dX2_digest_225 : decode cX2_digest 225 = .ok (.invokevirtual 80, 3) := by decide +kernel
theorem dX2_digest_228 : decode cX2_digest 228 = .ok (.iastore, 1) := by decide +kernel
theorem dX2_digest_229 : decode cX2_digest 229 = .ok (.dup, 1) := by decide +kernel
theorem dX2_digest_230 : decode cX2_digest 230 = .ok (.iconst 5, 1) := by decide +kernel
theorem dX2_digest_231 : decode cX2_digest 231 = .ok (.aload_n 0, 1) := by decide +kernel
theorem dX2_digest_232 : decode cX2_digest 232 = .ok (.iload 4, 2) := by decide +kernel
theorem dX2_digest_234 : decode cX2_digest 234 = .ok (.invokevirtual 143, 3) := by decide +kernel
theorem dX2_digest_237 : decode cX2_digest 237 = .ok (.iastore, 1) := by decide +kernel
theorem dX2_digest_238 : decode cX2_digest 238 = .ok (.astore 5, 2) := by decide +kernel
theorem dX2_digest_240 : decode cX2_digest 240 = .ok (.aload 5, 2) := by decide +kernel
theorem dX2_digest_242 : decode cX2_digest 242 = .ok (.astore 6, 2) := by decide +kernel
theorem dX2_digest_244 : decode cX2_digest 244 = .ok (.aload 6, 2) := by decide +kernel
theorem dX2_digest_246 : decode cX2_digest 246 = .ok (.arraylength, 1) := by decide +kernel
theorem dX2_digest_247 : decode cX2_digest 247 = .ok (.istore 7, 2) := by decide +kernel
theorem dX2_digest_249 : decode cX2_digest 249 = .ok (.iconst 0, 1) := by decide +kernel
theorem dX2_digest_250 : decode cX2_digest 250 = .ok (.istore 8, 2) := by decide +kernel
theorem dX2_digest_252 : decode cX2_digest 252 = .ok (.iload 8, 2) := by decide +kernel
theorem dX2_digest_254 : decode cX2_digest 254 = .ok (.iload 7, 2) := by decide +kernel
theorem dX2_digest_256 : decode cX2_digest 256 = .ok (.if_icmp .ge 26, 3) := by decide +kernel
theorem dX2_digest_259 : decode cX2_digest 259 = .ok (.aload 6, 2) := by decide +kernel
theorem dX2_digest_261 : decode cX2_digest 261 = .ok (.iload 8, 2) := by decide +kernel
theorem dX2_digest_263 : decode cX2_digest 263 = .ok (.iaload, 1) := by decide +kernel
theorem dX2_digest_264 : decode cX2_digest 264 = .ok (.istore 9, 2) := by decide +kernel
theorem dX2_digest_266 : decode cX2_digest 266 = .ok (.lload_n 2, 1) := by decide +kernel
theorem dX2_digest_267 : decode cX2_digest 267 = .ok (.ldc2_w 154, 3) := by decide +kernel
theorem dX2_digest_270 : decode cX2_digest 270 = .ok (.lmul, 1) := by decide +kernel
theorem dX2_digest_271 : decode cX2_digest 271 = .ok (.iload 9, 2) := by decide +kernel
theorem dX2_digest_273 : decode cX2_digest 273 = .ok (.i2l, 1) := by decide +kernel
theorem dX2_digest_274 : decode cX2_digest 274 = .ok (.ladd, 1) := by decide +kernel
theorem dX2_digest_275 : decode cX2_digest 275 = .ok (.lstore_n 2, 1) := by decide +kernel
theorem dX2_digest_276 : decode cX2_digest 276 = .ok (.iinc 8 1, 3) := by decide +kernel
theorem dX2_digest_279 : decode cX2_digest 279 = .ok (.goto (-27), 3) := by decide +kernel
theorem dX2_digest_282 : decode cX2_digest 282 = .ok (.iinc 4 1, 3) := by decide +kernel
theorem dX2_digest_285 : decode cX2_digest 285 = .ok (.goto (-116), 3) := by decide +kernel
theorem dX2_digest_288 : decode cX2_digest 288 = .ok (.iconst 0, 1) := by decide +kernel
theorem dX2_digest_289 : decode cX2_digest 289 = .ok (.istore 4, 2) := by decide +kernel
theorem dX2_digest_291 : decode cX2_digest 291 = .ok (.iload 4, 2) := by decide +kernel
theorem dX2_digest_293 : decode cX2_digest 293 = .ok (.aload_n 0, 1) := by decide +kernel
theorem dX2_digest_294 : decode cX2_digest 294 = .ok (.getfield 16, 3) := by decide +kernel
theorem dX2_digest_297 : decode cX2_digest 297 = .ok (.iconst 3, 1) := by decide +kernel
theorem dX2_digest_298 : decode cX2_digest 298 = .ok (.iaload, 1) := by decide +kernel
theorem dX2_digest_299 : decode cX2_digest 299 = .ok (.if_icmp .ge 40, 3) := by decide +kernel
theorem dX2_digest_302 : decode cX2_digest 302 = .ok (.iconst 0, 1) := by decide +kernel
theorem dX2_digest_303 : decode cX2_digest 303 = .ok (.istore 5, 2) := by decide +kernel
theorem dX2_digest_305 : decode cX2_digest 305 = .ok (.iload 5, 2) := by decide +kernel
theorem dX2_digest_307 : decode cX2_digest 307 = .ok (.iconst 3, 1) := by decide +kernel
theorem dX2_digest_308 : decode cX2_digest 308 = .ok (.if_icmp .ge 25, 3) := by decide +kernel
theorem dX2_digest_311 : decode cX2_digest 311 = .ok (.lload_n 2, 1) := by decide +kernel
theorem dX2_digest_312 : decode cX2_digest 312 = .ok (.ldc2_w 154, 3) := by decide +kernel
theorem dX2_digest_315 : decode cX2_digest 315 = .ok (.lmul, 1) := by decide +kernel
theorem dX2_digest_316 : decode cX2_digest 316 = .ok (.aload_n 0, 1) := by decide +kernel
theorem dX2_digest_317 : decode cX2_digest 317 = .ok (.iload 4, 2) := by decide +kernel
theorem dX2_digest_319 : decode cX2_digest 319 = .ok (.iload 5, 2) := by decide +kernel
theorem dX2_digest_321 : decode cX2_digest 321 = .ok (.invokevirtual 56, 3) := by decide +kernel
theorem dX2_digest_324 : decode cX2_digest 324 = .ok (.i2l, 1) := by decide +kernel
theorem dX2_digest_325 : decode cX2_digest 325 = .ok (.ladd, 1) := by decide +kernel
theorem dX2_digest_326 : decode cX2_digest 326 = .ok (.lstore_n 2, 1) := by decide +kernel
theorem dX2_digest_327 : decode cX2_digest 327 = .ok (.iinc 5 1, 3) := by decide +kernel
theorem dX2_digest_330 : decode cX2_digest 330 = .ok (.goto (-25), 3) := by decide +kernel
theorem dX2_digest_333 : decode cX2_digest 333 = .ok (.iinc 4 1, 3) := by decide +kernel
theorem dX2_digest_336 : decode cX2_digest 336 = .ok (.goto (-45), 3) := by decide +kernel
theorem dX2_digest_339 : decode cX2_digest 339 = .ok (.lload_n 2, 1) := by decide +kernel
theorem dX2_digest_340 : decode cX2_digest 340 = .ok (.lreturn, 1) := by decide +kernel
theorem dJ9_max_7cf53_0 : decode cJ9_max_7cf53 0 = .ok (.iload_n 0, 1) := by decide +kernel
theorem dJ9_max_7cf53_1 : decode cJ9_max_7cf53 1 = .ok (.iload_n 1, 1) := by decide +kernel
theorem dJ9_max_7cf53_2 : decode cJ9_max_7cf53 2 = .ok (.if_icmp .lt 7, 3) := by decide +kernel
theorem dJ9_max_7cf53_5 : decode cJ9_max_7cf53 5 = .ok (.iload_n 0, 1) := by decide +kernel
theorem dJ9_max_7cf53_6 : decode cJ9_max_7cf53 6 = .ok (.goto 4, 3) := by decide +kernel
theorem dJ9_max_7cf53_9 : decode cJ9_max_7cf53 9 = .ok (.iload_n 1, 1) := by decide +kernel
theorem dJ9_max_7cf53_10 : decode cJ9_max_7cf53 10 = .ok (.ireturn, 1) := by decide +kernel
theorem dJ9_min_7cf53_0 : decode cJ9_min_7cf53 0 = .ok (.iload_n 0, 1) := by decide +kernel
theorem dJ9_min_7cf53_1 : decode cJ9_min_7cf53 1 = .ok (.iload_n 1, 1) := by decide +kernel
theorem dJ9_min_7cf53_2 : decode cJ9_min_7cf53 2 = .ok (.if_icmp .gt 7, 3) := by decide +kernel
theorem dJ9_min_7cf53_5 : decode cJ9_min_7cf53 5 = .ok (.iload_n 0, 1) := by decide +kernel
theorem dJ9_min_7cf53_6 : decode cJ9_min_7cf53 6 = .ok (.goto 4, 3) := by decide +kernel
theorem dJ9_min_7cf53_9 : decode cJ9_min_7cf53 9 = .ok (.iload_n 1, 1) := by decide +kernel
theorem dJ9_min_7cf53_10 : decode cJ9_min_7cf53 10 = .ok (.ireturn, 1) := by decide +kernel
