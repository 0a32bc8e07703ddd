theorem dX0_init_0 : decode cX0_init 0 = .ok (.aload_n 0, 1) := by decide +kernel
theorem dX0_init_1 : decode cX0_init 1 = .ok (.invokespecial 3, 3) := by decide +kernel
theorem dX0_init_4 : decode cX0_init 4 = .ok (.aload_n 0, 1) := by decide +kernel
theorem dX0_init_5 : decode cX0_init 5 = .ok (.bipush 8, 2) := by decide +kernel
theorem dX0_init_7 : decode cX0_init 7 = .ok (.newarray .int, 2) := by decide +kernel
theorem dX0_init_9 : decode cX0_init 9 = .ok (.putfield 9, 3) := by decide +kernel
theorem dX0_init_12 : decode cX0_init 12 = .ok (.aload_n 0, 1) := by decide +kernel
theorem dX0_init_13 : decode cX0_init 13 = .ok (.bipush 8, 2) := by decide +kernel
theorem dX0_init_15 : decode cX0_init 15 = .ok (.newarray .int, 2) := by decide +kernel
theorem dX0_init_17 : decode cX0_init 17 = .ok (.putfield 15, 3) := by decide +kernel
theorem dX0_init_20 : decode cX0_init 20 = .ok (.iconst 0, 1) := by decide +kernel
theorem dX0_init_21 : decode cX0_init 21 = .ok (.istore_n 1, 1) := by decide +kernel
theorem dX0_init_22 : decode cX0_init 22 = .ok (.iload_n 1, 1) := by decide +kernel
theorem dX0_init_23 : decode cX0_init 23 = .ok (.bipush 8, 2) := by decide +kernel
theorem dX0_init_25 : decode cX0_init 25 = .ok (.if_icmp .ge 16, 3) := by decide +kernel
theorem dX0_init_28 : decode cX0_init 28 = .ok (.aload_n 0, 1) := by decide +kernel
theorem dX0_init_29 : decode cX0_init 29 = .ok (.getfield 9, 3) := by decide +kernel
theorem dX0_init_32 : decode cX0_init 32 = .ok (.iload_n 1, 1) := by decide +kernel
theorem dX0_init_33 : decode cX0_init 33 = .ok (.iload_n 1, 1) := by decide +kernel
theorem dX0_init_34 : decode cX0_init 34 = .ok (.iastore, 1) := by decide +kernel
theorem dX0_init_35 : decode cX0_init 35 = .ok (.iinc 1 1, 3) := by decide +kernel
theorem dX0_init_38 : decode cX0_init 38 = .ok (.goto (-16), 3) := by decide +kernel
theorem dX0_init_41 : decode cX0_init 41 = .ok (.return_, 1) := by decide +kernel
theorem dX0_raise_0 : decode cX0_raise 0 = .ok (.iconst 0, 1) := by decide +kernel
theorem dX0_raise_1 : decode cX0_raise 1 = .ok (.istore_n 3, 1) := by decide +kernel
theorem dX0_raise_2 : decode cX0_raise 2 = .ok (.iload_n 3, 1) := by decide +kernel
theorem dX0_raise_3 : decode cX0_raise 3 = .ok (.bipush 8, 2) := by decide +kernel
theorem dX0_raise_5 : decode cX0_raise 5 = .ok (.if_icmp .ge 29, 3) := by decide +kernel
theorem dX0_raise_8 : decode cX0_raise 8 = .ok (.aload_n 0, 1) := by decide +kernel
theorem dX0_raise_9 : decode cX0_raise 9 = .ok (.getfield 9, 3) := by decide +kernel
theorem dX0_raise_12 : decode cX0_raise 12 = .ok (.iload_n 3, 1) := by decide +kernel
theorem dX0_raise_13 : decode cX0_raise 13 = .ok (.iaload, 1) := by decide +kernel
theorem dX0_raise_14 : decode cX0_raise 14 = .ok (.iload_n 1, 1) := by decide +kernel
theorem dX0_raise_15 : decode cX0_raise 15 = .ok (.if_icmp .ne 13, 3) := by decide +kernel
theorem dX0_raise_18 : decode cX0_raise 18 = .ok (.aload_n 0, 1) := by decide +kernel
theorem dX0_raise_19 : decode cX0_raise 19 = .ok (.getfield 15, 3) := by decide +kernel
theorem dX0_raise_22 : decode cX0_raise 22 = .ok (.iload_n 3, 1) := by decide +kernel
theorem dX0_raise_23 : decode cX0_raise 23 = .ok (.dup2, 1) := by decide +kernel
theorem dX0_raise_24 : decode cX0_raise 24 = .ok (.iaload, 1) := by decide +kernel
theorem dX0_raise_25 : decode cX0_raise 25 = .ok (.iload_n 2, 1) := by decide +kernel
theorem dX0_raise_26 : decode cX0_raise 26 = .ok (.ior, 1) := by decide +kernel
theorem dX0_raise_27 : decode cX0_raise 27 = .ok (.iastore, 1) := by decide +kernel
theorem dX0_raise_28 : decode cX0_raise 28 = .ok (.iinc 3 1, 3) := by decide +kernel
theorem dX0_raise_31 : decode cX0_raise 31 = .ok (.goto (-29), 3) := by decide +kernel
theorem dX0_raise_34 : decode cX0_raise 34 = .ok (.return_, 1) := by decide +kernel
set_option maxRecDepth 20000 in
theorem ggX1_init_X3_init : GoodIn wsX1_init wsX3_init := goodIn_r _ [12, 13, 2, 3, 14, 15, 16, 17, 18] (by decide +kernel) (by decide +kernel)
set_option maxRecDepth 20000 in
theorem gX1_init_X3_init : GoodIn wsX1_init (wsX3_init) := ggX1_init_X3_init
theorem dX1_init_0 : decode cX1_init 0 = .ok (.aload_n 0, 1) := by decide +kernel
theorem dX1_init_1 : decode cX1_init 1 = .ok (.invokespecial 3, 3) := by decide +kernel
theorem dX1_init_4 : decode cX1_init 4 = .ok (.aload_n 0, 1) := by decide +kernel
theorem dX1_init_5 : decode cX1_init 5 = .ok (.new 9, 3) := by decide +kernel
theorem dX1_init_8 : decode cX1_init 8 = .ok (.dup, 1) := by decide +kernel
theorem dX1_init_9 : decode cX1_init 9 = .ok (.bipush 64, 2) := by decide +kernel
theorem dX1_init_11 : decode cX1_init 11 = .ok (.invokespecial 11, 3) := by decide +kernel
theorem dX1_init_14 : decode cX1_init 14 = .ok (.putfield 14, 3) := by decide +kernel
theorem dX1_init_17 : decode cX1_init 17 = .ok (.aload_n 0, 1) := by decide +kernel
theorem dX1_init_18 : decode cX1_init 18 = .ok (.new 9, 3) := by decide +kernel
theorem dX1_init_21 : decode cX1_init 21 = .ok (.dup, 1) := by decide +kernel
theorem dX1_init_22 : decode cX1_init 22 = .ok (.bipush 8, 2) := by decide +kernel
theorem dX1_init_24 : decode cX1_init 24 = .ok (.invokespecial 11, 3) := by decide +kernel
theorem dX1_init_27 : decode cX1_init 27 = .ok (.putfield 20, 3) := by decide +kernel
theorem dX1_init_30 : decode cX1_init 30 = .ok (.aload_n 0, 1) := by decide +kernel
theorem dX1_init_31 : decode cX1_init 31 = .ok (.iconst 1, 1) := by decide +kernel
theorem dX1_init_32 : decode cX1_init 32 = .ok (.putfield 23, 3) := by decide +kernel
theorem dX1_init_35 : decode cX1_init 35 = .ok (.return_, 1) := by decide +kernel
theorem dX1_size_0 : decode cX1_size 0 = .ok (.aload_n 0, 1) := by decide +kernel
theorem dX1_size_1 : decode cX1_size 1 = .ok (.getfield 14, 3) := by decide +kernel
theorem dX1_size_4 : decode cX1_size 4 = .ok (.getfield 27, 3) := by decide +kernel
theorem dX1_size_7 : decode cX1_size 7 = .ok (.aload_n 0, 1) := by decide +kernel
theorem dX1_size_8 : decode cX1_size 8 = .ok (.getfield 20, 3) := by decide +kernel
theorem dX1_size_11 : decode cX1_size 11 = .ok (.getfield 27, 3) := by decide +kernel
theorem dX1_size_14 : decode cX1_size 14 = .ok (.iadd, 1) := by decide +kernel
theorem dX1_size_15 : decode cX1_size 15 = .ok (.ireturn, 1) := by decide +kernel
set_option maxRecDepth 20000 in
theorem ggX1_accept_X3_fits : GoodIn wsX1_accept wsX3_fits := goodIn_r _ [7, 8, 9, 29, 30, 31] (by decide +kernel) (by decide +kernel)
set_option maxRecDepth 20000 in
theorem gX1_accept_X3_fits : GoodIn wsX1_accept (wsV RX1 31 RX3 yX3_fits wsX3_fits) := goodIn_app (goodIn_of _ (by decide +kernel)) ggX1_accept_X3_fits
set_option maxRecDepth 20000 in
theorem ggX1_accept_X3_at : GoodIn wsX1_accept wsX3_at := goodIn_r _ [13, 9, 14, 8, 29, 30, 31] (by decide +kernel) (by decide +kernel)
set_option maxRecDepth 20000 in
theorem gX1_accept_X3_at : GoodIn wsX1_accept (wsV RX1 35 RX3 yX3_at wsX3_at) := goodIn_app (goodIn_of _ (by decide +kernel)) ggX1_accept_X3_at
set_option maxRecDepth 20000 in
theorem ggX1_accept_X3_add : GoodIn wsX1_accept wsX3_add := goodIn_r _ [18, 9, 8, 14, 29, 30, 31] (by decide +kernel) (by decide +kernel)
set_option maxRecDepth 20000 in
theorem gX1_accept_X3_add : GoodIn wsX1_accept (wsV RX1 39 RX3 yX3_add wsX3_add) := goodIn_app (goodIn_of _ (by decide +kernel)) ggX1_accept_X3_add
set_option maxRecDepth 20000 in
theorem ggX1_accept_X1_columnBehind : GoodIn wsX1_accept wsX1_columnBehind := goodIn_r _ [23, 2, 24, 25, 26, 27, 28] (by decide +kernel) (by decide +kernel)
set_option maxRecDepth 20000 in
theorem gX1_accept_X1_columnBehind : GoodIn wsX1_accept (wsV RX1 42 RX1 yX1_columnBehind wsX1_columnBehind) := goodIn_app (goodIn_of _ (by decide +kernel)) ggX1_accept_X1_columnBehind
theorem dX1_accept_0 : decode cX1_accept 0 = .ok (.aload_n 0, 1) := by decide +kernel
theorem dX1_accept_1 : decode cX1_accept 1 = .ok (.getfield 14, 3) := by decide +kernel
theorem dX1_accept_4 : decode cX1_accept 4 = .ok (.aload_n 1, 1) := by decide +kernel
theorem dX1_accept_5 : decode cX1_accept 5 = .ok (.getfield 27, 3) := by decide +kernel
theorem dX1_accept_8 : decode cX1_accept 8 = .ok (.invokevirtual 31, 3) := by decide +kernel
theorem dX1_accept_11 : decode cX1_accept 11 = .ok (.ifCond .ne 5, 3) := by decide +kernel
theorem dX1_accept_14 : decode cX1_accept 14 = .ok (.iconst 0, 1) := by decide +kernel
theorem dX1_accept_15 : decode cX1_accept 15 = .ok (.ireturn, 1) := by decide +kernel
theorem dX1_accept_16 : decode cX1_accept 16 = .ok (.iconst 0, 1) := by decide +kernel
theorem dX1_accept_17 : decode cX1_accept 17 = .ok (.istore_n 2, 1) := by decide +kernel
theorem dX1_accept_18 : decode cX1_accept 18 = .ok (.iload_n 2, 1) := by decide +kernel
theorem dX1_accept_19 : decode cX1_accept 19 = .ok (.aload_n 1, 1) := by decide +kernel
theorem dX1_accept_20 : decode cX1_accept 20 = .ok (.getfield 27, 3) := by decide +kernel
theorem dX1_accept_23 : decode cX1_accept 23 = .ok (.if_icmp .ge 32, 3) := by decide +kernel
theorem dX1_accept_26 : decode cX1_accept 26 = .ok (.aload_n 1, 1) := by decide +kernel
theorem dX1_accept_27 : decode cX1_accept 27 = .ok (.iload_n 2, 1) := by decide +kernel
theorem dX1_accept_28 : decode cX1_accept 28 = .ok (.invokevirtual 35, 3) := by decide +kernel
theorem dX1_accept_31 : decode cX1_accept 31 = .ok (.istore_n 3, 1) := by decide +kernel
theorem dX1_accept_32 : decode cX1_accept 32 = .ok (.aload_n 0, 1) := by decide +kernel
theorem dX1_accept_33 : decode cX1_accept 33 = .ok (.getfield 14, 3) := by decide +kernel
theorem dX1_accept_36 : decode cX1_accept 36 = .ok (.iload_n 3, 1) := by decide +kernel
theorem dX1_accept_37 : decode cX1_accept 37 = .ok (.invokevirtual 39, 3) := by decide +kernel
theorem dX1_accept_40 : decode cX1_accept 40 = .ok (.aload_n 0, 1) := by decide +kernel
theorem dX1_accept_41 : decode cX1_accept 41 = .ok (.aload_n 0, 1) := by decide +kernel
theorem dX1_accept_42 : decode cX1_accept 42 = .ok (.iload_n 3, 1) := by decide +kernel
theorem dX1_accept_43 : decode cX1_accept 43 = .ok (.invokevirtual 42, 3) := by decide +kernel
theorem dX1_accept_46 : decode cX1_accept 46 = .ok (.putfield 45, 3) := by decide +kernel
theorem dX1_accept_49 : decode cX1_accept 49 = .ok (.iinc 2 1, 3) := by decide +kernel
theorem dX1_accept_52 : decode cX1_accept 52 = .ok (.goto (-34), 3) := by decide +kernel
theorem dX1_accept_55 : decode cX1_accept 55 = .ok (.iconst 1, 1) := by decide +kernel
theorem dX1_accept_56 : decode cX1_accept 56 = .ok (.ireturn, 1) := by decide +kernel
theorem dX1_columnBehind_0 : decode cX1_columnBehind 0 = .ok (.iload_n 1, 1) := by decide +kernel
theorem dX1_columnBehind_1 : decode cX1_columnBehind 1 = .ok (.bipush 13, 2) := by decide +kernel
theorem dX1_columnBehind_3 : decode cX1_columnBehind 3 = .ok (.if_icmp .ne 5, 3) := by decide +kernel
theorem dX1_columnBehind_6 : decode cX1_columnBehind 6 = .ok (.iconst 0, 1) := by decide +kernel
theorem dX1_columnBehind_7 : decode cX1_columnBehind 7 = .ok (.ireturn, 1) := by decide +kernel
theorem dX1_columnBehind_8 : decode cX1_columnBehind 8 = .ok (.iload_n 1, 1) := by decide +kernel
theorem dX1_columnBehind_9 : decode cX1_columnBehind 9 = .ok (.bipush 8, 2) := by decide +kernel
theorem dX1_columnBehind_11 : decode cX1_columnBehind 11 = .ok (.if_icmp .ne 21, 3) := by decide +kernel
theorem dX1_columnBehind_14 : decode cX1_columnBehind 14 = .ok (.aload_n 0, 1) := by decide +kernel
theorem dX1_columnBehind_15 : decode cX1_columnBehind 15 = .ok (.getfield 45, 3) := by decide +kernel
theorem dX1_columnBehind_18 : decode cX1_columnBehind 18 = .ok (.ifCond .le 12, 3) := by decide +kernel
theorem dX1_columnBehind_21 : decode cX1_columnBehind 21 = .ok (.aload_n 0, 1) := by decide +kernel
theorem dX1_columnBehind_22 : decode cX1_columnBehind 22 = .ok (.getfield 45, 3) := by decide +kernel
theorem dX1_columnBehind_25 : decode cX1_columnBehind 25 = .ok (.iconst 1, 1) := by decide +kernel
theorem dX1_columnBehind_26 : decode cX1_columnBehind 26 = .ok (.isub, 1) := by decide +kernel
theorem dX1_columnBehind_27 : decode cX1_columnBehind 27 = .ok (.goto 4, 3) := by decide +kernel
theorem dX1_columnBehind_30 : decode cX1_columnBehind 30 = .ok (.iconst 0, 1) := by decide +kernel
theorem dX1_columnBehind_31 : decode cX1_columnBehind 31 = .ok (.ireturn, 1) := by decide +kernel
theorem dX1_columnBehind_32 : decode cX1_columnBehind 32 = .ok (.iload_n 1, 1) := by decide +kernel
theorem dX1_columnBehind_33 : decode cX1_columnBehind 33 = .ok (.bipush 9, 2) := by decide +kernel
theorem dX1_columnBehind_35 : decode cX1_columnBehind 35 = .ok (.if_icmp .ne 16, 3) := by decide +kernel
theorem dX1_columnBehind_38 : decode cX1_columnBehind 38 = .ok (.aload_n 0, 1) := by decide +kernel
theorem dX1_columnBehind_39 : decode cX1_columnBehind 39 = .ok (.getfield 45, 3) := by decide +kernel
theorem dX1_columnBehind_42 : decode cX1_columnBehind 42 = .ok (.bipush 8, 2) := by decide +kernel
theorem dX1_columnBehind_44 : decode cX1_columnBehind 44 = .ok (.idiv, 1) := by decide +kernel
theorem dX1_columnBehind_45 : decode cX1_columnBehind 45 = .ok (.iconst 1, 1) := by decide +kernel
theorem dX1_columnBehind_46 : decode cX1_columnBehind 46 = .ok (.iadd, 1) := by decide +kernel
theorem dX1_columnBehind_47 : decode cX1_columnBehind 47 = .ok (.bipush 8, 2) := by decide +kernel
theorem dX1_columnBehind_49 : decode cX1_columnBehind 49 = .ok (.imul, 1) := by decide +kernel
theorem dX1_columnBehind_50 : decode cX1_columnBehind 50 = .ok (.ireturn, 1) := by decide +kernel
theorem dX1_columnBehind_51 : decode cX1_columnBehind 51 = .ok (.iload_n 1, 1) := by decide +kernel
theorem dX1_columnBehind_52 : decode cX1_columnBehind 52 = .ok (.bipush 32, 2) := by decide +kernel
theorem dX1_columnBehind_54 : decode cX1_columnBehind 54 = .ok (.if_icmp .lt 18, 3) := by decide +kernel
theorem dX1_columnBehind_57 : decode cX1_columnBehind 57 = .ok (.iload_n 1, 1) := by decide +kernel
theorem dX1_columnBehind_58 : decode cX1_columnBehind 58 = .ok (.bipush 127, 2) := by decide +kernel
theorem dX1_columnBehind_60 : decode cX1_columnBehind 60 = .ok (.if_icmp .eq 12, 3) := by decide +kernel
theorem dX1_columnBehind_63 : decode cX1_columnBehind 63 = .ok (.aload_n 0, 1) := by decide +kernel
theorem dX1_columnBehind_64 : decode cX1_columnBehind 64 = .ok (.getfield 45, 3) := by decide +kernel
theorem dX1_columnBehind_67 : decode cX1_columnBehind 67 = .ok (.iconst 1, 1) := by decide +kernel
theorem dX1_columnBehind_68 : decode cX1_columnBehind 68 = .ok (.iadd, 1) := by decide +kernel
theorem dX1_columnBehind_69 : decode cX1_columnBehind 69 = .ok (.goto 7, 3) := by decide +kernel
theorem dX1_columnBehind_72 : decode cX1_columnBehind 72 = .ok (.aload_n 0, 1) := by decide +kernel
theorem dX1_columnBehind_73 : decode cX1_columnBehind 73 = .ok (.getfield 45, 3) := by decide +kernel
theorem dX1_columnBehind_76 : decode cX1_columnBehind 76 = .ok (.ireturn, 1) := by decide +kernel
theorem dX1_blanksOfTab_0 : decode cX1_blanksOfTab 0 = .ok (.bipush 8, 2) := by decide +kernel
theorem dX1_blanksOfTab_2 : decode cX1_blanksOfTab 2 = .ok (.aload_n 0, 1) := by decide +kernel
theorem dX1_blanksOfTab_3 : decode cX1_blanksOfTab 3 = .ok (.getfield 45, 3) := by decide +kernel
theorem dX1_blanksOfTab_6 : decode cX1_blanksOfTab 6 = .ok (.bipush 8, 2) := by decide +kernel
theorem dX1_blanksOfTab_8 : decode cX1_blanksOfTab 8 = .ok (.irem, 1) := by decide +kernel
theorem dX1_blanksOfTab_9 : decode cX1_blanksOfTab 9 = .ok (.isub, 1) := by decide +kernel
theorem dX1_blanksOfTab_10 : decode cX1_blanksOfTab 10 = .ok (.ireturn, 1) := by decide +kernel
set_option maxRecDepth 20000 in
theorem ggX1_push_X3_fits : GoodIn wsX1_push wsX3_fits := goodIn_r _ [7, 8, 9, 24, 25, 26] (by decide +kernel) (by decide +kernel)
set_option maxRecDepth 20000 in
theorem gX1_push_X3_fits : GoodIn wsX1_push (wsV RX1 31 RX3 yX3_fits wsX3_fits) := goodIn_app (goodIn_of _ (by decide +kernel)) ggX1_push_X3_fits
set_option maxRecDepth 20000 in
theorem ggX1_push_X3_takeFirst : GoodIn wsX1_push wsX3_takeFirst := goodIn_r _ [13, 9, 8, 14, 24, 25, 26] (by decide +kernel) (by decide +kernel)
set_option maxRecDepth 20000 in
theorem gX1_push_X3_takeFirst : GoodIn wsX1_push (wsV RX1 48 RX3 yX3_takeFirst wsX3_takeFirst) := goodIn_app (goodIn_of _ (by decide +kernel)) ggX1_push_X3_takeFirst
set_option maxRecDepth 20000 in
theorem ggX1_push_X3_add : GoodIn wsX1_push wsX3_add := goodIn_r _ [18, 9, 8, 14, 24, 25, 26] (by decide +kernel) (by decide +kernel)
set_option maxRecDepth 20000 in
theorem gX1_push_X3_add : GoodIn wsX1_push (wsV RX1 39 RX3 yX3_add wsX3_add) := goodIn_app (goodIn_of _ (by decide +kernel)) ggX1_push_X3_add
theorem dX1_push_0 : decode cX1_push 0 = .ok (.iconst 0, 1) := by decide +kernel
theorem dX1_push_1 : decode cX1_push 1 = .ok (.istore_n 1, 1) := by decide +kernel
theorem dX1_push_2 : decode cX1_push 2 = .ok (.iload_n 1, 1) := by decide +kernel
theorem dX1_push_3 : decode cX1_push 3 = .ok (.bipush 8, 2) := by decide +kernel
theorem dX1_push_5 : decode cX1_push 5 = .ok (.if_icmp .ge 44, 3) := by decide +kernel
theorem dX1_push_8 : decode cX1_push 8 = .ok (.aload_n 0, 1) := by decide +kernel
theorem dX1_push_9 : decode cX1_push 9 = .ok (.getfield 20, 3) := by decide +kernel
theorem dX1_push_12 : decode cX1_push 12 = .ok (.iconst 1, 1) := by decide +kernel
theorem dX1_push_13 : decode cX1_push 13 = .ok (.invokevirtual 31, 3) := by decide +kernel
theorem dX1_push_16 : decode cX1_push 16 = .ok (.ifCond .eq 33, 3) := by decide +kernel
theorem dX1_push_19 : decode cX1_push 19 = .ok (.aload_n 0, 1) := by decide +kernel
theorem dX1_push_20 : decode cX1_push 20 = .ok (.getfield 14, 3) := by decide +kernel
theorem dX1_push_23 : decode cX1_push 23 = .ok (.getfield 27, 3) := by decide +kernel
theorem dX1_push_26 : decode cX1_push 26 = .ok (.ifCond .le 23, 3) := by decide +kernel
theorem dX1_push_29 : decode cX1_push 29 = .ok (.aload_n 0, 1) := by decide +kernel
theorem dX1_push_30 : decode cX1_push 30 = .ok (.getfield 20, 3) := by decide +kernel
theorem dX1_push_33 : decode cX1_push 33 = .ok (.aload_n 0, 1) := by decide +kernel
theorem dX1_push_34 : decode cX1_push 34 = .ok (.getfield 14, 3) := by decide +kernel
theorem dX1_push_37 : decode cX1_push 37 = .ok (.invokevirtual 48, 3) := by decide +kernel
theorem dX1_push_40 : decode cX1_push 40 = .ok (.invokevirtual 39, 3) := by decide +kernel
theorem dX1_push_43 : decode cX1_push 43 = .ok (.iinc 1 1, 3) := by decide +kernel
theorem dX1_push_46 : decode cX1_push 46 = .ok (.goto (-44), 3) := by decide +kernel
theorem dX1_push_49 : decode cX1_push 49 = .ok (.return_, 1) := by decide +kernel
set_option maxRecDepth 20000 in
theorem ggX1_takeFromSender_X3_takeFirst : GoodIn wsX1_takeFromSender wsX3_takeFirst := goodIn_r _ [8, 9, 10, 11, 17, 18, 19] (by decide +kernel) (by decide +kernel)
set_option maxRecDepth 20000 in
theorem gX1_takeFromSender_X3_takeFirst : GoodIn wsX1_takeFromSender (wsV RX1 48 RX3 yX3_takeFirst wsX3_takeFirst) := goodIn_app (goodIn_of _ (by decide +kernel)) ggX1_takeFromSender_X3_takeFirst
theorem dX1_takeFromSender_0 : decode cX1_takeFromSender 0 = .ok (.aload_n 0, 1) := by decide +kernel
theorem dX1_takeFromSender_1 : decode cX1_takeFromSender 1 = .ok (.getfield 52, 3) := by decide +kernel
theorem dX1_takeFromSender_4 : decode cX1_takeFromSender 4 = .ok (.ifCond .ne 10, 3) := by decide +kernel
theorem dX1_takeFromSender_7 : decode cX1_takeFromSender 7 = .ok (.aload_n 0, 1) := by decide +kernel
theorem dX1_takeFromSender_8 : decode cX1_takeFromSender 8 = .ok (.getfield 23, 3) := by decide +kernel
theorem dX1_takeFromSender_11 : decode cX1_takeFromSender 11 = .ok (.ifCond .ne 7, 3) := by decide +kernel
theorem dX1_takeFromSender_14 : decode cX1_takeFromSender 14 = .ok (.iconst (-1), 1) := by decide +kernel
theorem dX1_takeFromSender_15 : decode cX1_takeFromSender 15 = .ok (.goto 10, 3) := by decide +kernel
theorem dX1_takeFromSender_18 : decode cX1_takeFromSender 18 = .ok (.aload_n 0, 1) := by decide +kernel
theorem dX1_takeFromSender_19 : decode cX1_takeFromSender 19 = .ok (.getfield 20, 3) := by decide +kernel
theorem dX1_takeFromSender_22 : decode cX1_takeFromSender 22 = .ok (.invokevirtual 48, 3) := by decide +kernel
theorem dX1_takeFromSender_25 : decode cX1_takeFromSender 25 = .ok (.ireturn, 1) := by decide +kernel
set_option maxRecDepth 20000 in
theorem ggX2_init_X3_init : GoodIn wsX2_init wsX3_init := goodIn_r _ [38, 39, 2, 3, 30, 40, 77, 78, 79] (by decide +kernel) (by decide +kernel)
set_option maxRecDepth 20000 in
theorem gX2_init_X3_init : GoodIn wsX2_init (wsX3_init) := ggX2_init_X3_init
set_option maxRecDepth 20000 in
theorem ggX2_init_X4_init : GoodIn wsX2_init wsX4_init := goodIn_r _ [42, 43, 2, 3, 44, 12, 13, 45, 46, 37, 38, 39, 30, 40, 77, 78, 79, 80, 81, 82] (by decide +kernel) (by decide +kernel)
set_option maxRecDepth 20000 in
theorem gX2_init_X4_init_n34 : GoodIn wsX2_init (wsX4_init) := ggX2_init_X4_init
set_option maxRecDepth 20000 in
theorem ggX2_init_X1_init : GoodIn wsX2_init wsX1_init := goodIn_r _ [48, 49, 2, 3, 50, 12, 13, 51, 52, 53, 54, 37, 38, 39, 30, 40, 77, 78, 79, 83, 84, 85, 86, 87] (by decide +kernel) (by decide +kernel)
set_option maxRecDepth 20000 in
theorem gX2_init_X1_init_n41 : GoodIn wsX2_init (wsX1_init) := ggX2_init_X1_init
set_option maxRecDepth 20000 in
theorem ggX2_init_X5_init : GoodIn wsX2_init wsX5_init := goodIn_r _ [56, 57, 2, 3, 30, 58, 59, 28, 60, 61, 88, 89, 90, 91, 92] (by decide +kernel) (by decide +kernel)
set_option maxRecDepth 20000 in
theorem gX2_init_X5_init_n48 : GoodIn wsX2_init (wsX5_init) := ggX2_init_X5_init
theorem dX2_init_0 : decode cX2_init 0 = .ok (.aload_n 0, 1) := by decide +kernel
theorem dX2_init_1 : decode cX2_init 1 = .ok (.invokespecial 3, 3) := by decide +kernel
theorem dX2_init_4 : decode cX2_init 4 = .ok (.aload_n 0, 1) := by decide +kernel
theorem dX2_init_5 : decode cX2_init 5 = .ok (.getstatic 9, 3) := by decide +kernel
theorem dX2_init_8 : decode cX2_init 8 = .ok (.invokevirtual 13, 3) := by decide +kernel
theorem dX2_init_11 : decode cX2_init 11 = .ok (.checkcast 14, 3) := by decide +kernel
theorem dX2_init_14 : decode cX2_init 14 = .ok (.putfield 18, 3) := by decide +kernel
theorem dX2_init_17 : decode cX2_init 17 = .ok (.aload_n 0, 1) := by decide +kernel
theorem dX2_init_18 : decode cX2_init 18 = .ok (.new 23, 3) := by decide +kernel
theorem dX2_init_21 : decode cX2_init 21 = .ok (.dup, 1) := by decide +kernel
theorem dX2_init_22 : decode cX2_init 22 = .ok (.bipush 8, 2) := by decide +kernel
theorem dX2_init_24 : decode cX2_init 24 = .ok (.invokespecial 25, 3) := by decide +kernel
theorem dX2_init_27 : decode cX2_init 27 = .ok (.putfield 28, 3) := by decide +kernel
theorem dX2_init_30 : decode cX2_init 30 = .ok (.aload_n 0, 1) := by decide +kernel
theorem dX2_init_31 : decode cX2_init 31 = .ok (.new 32, 3) := by decide +kernel
theorem dX2_init_34 : decode cX2_init 34 = .ok (.dup, 1) := by decide +kernel
theorem dX2_init_35 : decode cX2_init 35 = .ok (.invokespecial 34, 3) := by decide +kernel
theorem dX2_init_38 : decode cX2_init 38 = .ok (.putfield 35, 3) := by decide +kernel
theorem dX2_init_41 : decode cX2_init 41 = .ok (.aload_n 0, 1) := by decide +kernel
theorem dX2_init_42 : decode cX2_init 42 = .ok (.new 39, 3) := by decide +kernel
theorem dX2_init_45 : decode cX2_init 45 = .ok (.dup, 1) := by decide +kernel
theorem dX2_init_46 : decode cX2_init 46 = .ok (.invokespecial 41, 3) := by decide +kernel
theorem dX2_init_49 : decode cX2_init 49 = .ok (.putfield 42, 3) := by decide +kernel
theorem dX2_init_52 : decode cX2_init 52 = .ok (.aload_n 0, 1) := by decide +kernel
theorem dX2_init_53 : decode cX2_init 53 = .ok (.new 46, 3) := by decide +kernel
theorem dX2_init_56 : decode cX2_init 56 = .ok (.dup, 1) := by decide +kernel
theorem dX2_init_57 : decode cX2_init 57 = .ok (.invokespecial 48, 3) := by decide +kernel
theorem dX2_init_60 : decode cX2_init 60 = .ok (.putfield 49, 3) := by decide +kernel
theorem dX2_init_63 : decode cX2_init 63 = .ok (.aload_n 0, 1) := by decide +kernel
theorem dX2_init_64 : decode cX2_init 64 = .ok (.new 23, 3) := by decide +kernel
theorem dX2_init_67 : decode cX2_init 67 = .ok (.dup, 1) := by decide +kernel
theorem dX2_init_68 : decode cX2_init 68 = .ok (.sipush 134, 3) := by decide +kernel
theorem dX2_init_71 : decode cX2_init 71 = .ok (.invokespecial 25, 3) := by decide +kernel
theorem dX2_init_74 : decode cX2_init 74 = .ok (.putfield 53, 3) := by decide +kernel
theorem dX2_init_77 : decode cX2_init 77 = .ok (.aload_n 0, 1) := by decide +kernel
theorem dX2_init_78 : decode cX2_init 78 = .ok (.bipush 8, 2) := by decide +kernel
theorem dX2_init_80 : decode cX2_init 80 = .ok (.newarray .boolean, 2) := by decide +kernel
theorem dX2_init_82 : decode cX2_init 82 = .ok (.putfield 56, 3) := by decide +kernel
theorem dX2_init_85 : decode cX2_init 85 = .ok (.aload_n 0, 1) := by decide +kernel
theorem dX2_init_86 : decode cX2_init 86 = .ok (.iconst 5, 1) := by decide +kernel
theorem dX2_init_87 : decode cX2_init 87 = .ok (.newarray .int, 2) := by decide +kernel
theorem dX2_init_89 : decode cX2_init 89 = .ok (.putfield 60, 3) := by decide +kernel
theorem dX2_init_92 : decode cX2_init 92 = .ok (.aload_n 0, 1) := by decide +kernel
theorem dX2_init_93 : decode cX2_init 93 = .ok (.iconst 1, 1) := by decide +kernel
theorem dX2_init_94 : decode cX2_init 94 = .ok (.putfield 63, 3) := by decide +kernel
theorem dX2_init_97 : decode cX2_init 97 = .ok (.aload_n 0, 1) := by decide +kernel
theorem dX2_init_98 : decode cX2_init 98 = .ok (.iconst (-1), 1) := by decide +kernel
theorem dX2_init_99 : decode cX2_init 99 = .ok (.putfield 67, 3) := by decide +kernel
theorem dX2_init_102 : decode cX2_init 102 = .ok (.aload_n 0, 1) := by decide +kernel
theorem dX2_init_103 : decode cX2_init 103 = .ok (.iconst (-1), 1) := by decide +kernel
theorem dX2_init_104 : decode cX2_init 104 = .ok (.putfield 71, 3) := by decide +kernel
theorem dX2_init_107 : decode cX2_init 107 = .ok (.aload_n 0, 1) := by decide +kernel
theorem dX2_init_108 : decode cX2_init 108 = .ok (.aload_n 1, 1) := by decide +kernel
theorem dX2_init_109 : decode cX2_init 109 = .ok (.putfield 74, 3) := by decide +kernel
theorem dX2_init_112 : decode cX2_init 112 = .ok (.return_, 1) := by decide +kernel
theorem dX2_isOn_0 : decode cX2_isOn 0 = .ok (.aload_n 0, 1) := by decide +kernel
theorem dX2_isOn_1 : decode cX2_isOn 1 = .ok (.getfield 18, 3) := by decide +kernel
theorem dX2_isOn_4 : decode cX2_isOn 4 = .ok (.iload_n 1, 1) := by decide +kernel
theorem dX2_isOn_5 : decode cX2_isOn 5 = .ok (.iaload, 1) := by decide +kernel
theorem dX2_isOn_6 : decode cX2_isOn 6 = .ok (.iconst 1, 1) := by decide +kernel
theorem dX2_isOn_7 : decode cX2_isOn 7 = .ok (.if_icmp .ne 7, 3) := by decide +kernel
theorem dX2_isOn_10 : decode cX2_isOn 10 = .ok (.iconst 1, 1) := by decide +kernel
theorem dX2_isOn_11 : decode cX2_isOn 11 = .ok (.goto 4, 3) := by decide +kernel
theorem dX2_isOn_14 : decode cX2_isOn 14 = .ok (.iconst 0, 1) := by decide +kernel
theorem dX2_isOn_15 : decode cX2_isOn 15 = .ok (.ireturn, 1) := by decide +kernel
set_option maxRecDepth 20000 in
theorem ggX2_takeFromLine_X3_fits : GoodIn wsX2_takeFromLine wsX3_fits := goodIn_r _ [7, 8, 9, 30, 31, 32] (by decide +kernel) (by decide +kernel)
set_option maxRecDepth 20000 in
theorem gX2_takeFromLine_X3_fits : GoodIn wsX2_takeFromLine (wsV RX2 78 RX3 yX3_fits wsX3_fits) := goodIn_app (goodIn_of _ (by decide +kernel)) ggX2_takeFromLine_X3_fits
set_option maxRecDepth 20000 in
theorem ggX2_takeFromLine_X3_add : GoodIn wsX2_takeFromLine wsX3_add := goodIn_r _ [13, 9, 8, 14, 30, 31, 32] (by decide +kernel) (by decide +kernel)
set_option maxRecDepth 20000 in
theorem gX2_takeFromLine_X3_add : GoodIn wsX2_takeFromLine (wsV RX2 82 RX3 yX3_add wsX3_add) := goodIn_app (goodIn_of _ (by decide +kernel)) ggX2_takeFromLine_X3_add
theorem dX2_takeFromLine_0 : decode cX2_takeFromLine 0 = .ok (.aload_n 0, 1) := by decide +kernel
theorem dX2_takeFromLine_1 : decode cX2_takeFromLine 1 = .ok (.getfield 28, 3) := by decide +kernel
theorem dX2_takeFromLine_4 : decode cX2_takeFromLine 4 = .ok (.iconst 1, 1) := by decide +kernel
theorem dX2_takeFromLine_5 : decode cX2_takeFromLine 5 = .ok (.invokevirtual 78, 3) := by decide +kernel
theorem dX2_takeFromLine_8 : decode cX2_takeFromLine 8 = .ok (.ifCond .ne 15, 3) := by decide +kernel
theorem dX2_takeFromLine_11 : decode cX2_takeFromLine 11 = .ok (.aload_n 0, 1) := by decide +kernel
theorem dX2_takeFromLine_12 : decode cX2_takeFromLine 12 = .ok (.getfield 60, 3) := by decide +kernel
theorem dX2_takeFromLine_15 : decode cX2_takeFromLine 15 = .ok (.iconst 1, 1) := by decide +kernel
theorem dX2_takeFromLine_16 : decode cX2_takeFromLine 16 = .ok (.dup2, 1) := by decide +kernel
theorem dX2_takeFromLine_17 : decode cX2_takeFromLine 17 = .ok (.iaload, 1) := by decide +kernel
theorem dX2_takeFromLine_18 : decode cX2_takeFromLine 18 = .ok (.iconst 1, 1) := by decide +kernel
theorem dX2_takeFromLine_19 : decode cX2_takeFromLine 19 = .ok (.iadd, 1) := by decide +kernel
theorem dX2_takeFromLine_20 : decode cX2_takeFromLine 20 = .ok (.iastore, 1) := by decide +kernel
theorem dX2_takeFromLine_21 : decode cX2_takeFromLine 21 = .ok (.iconst 0, 1) := by decide +kernel
theorem dX2_takeFromLine_22 : decode cX2_takeFromLine 22 = .ok (.ireturn, 1) := by decide +kernel
theorem dX2_takeFromLine_23 : decode cX2_takeFromLine 23 = .ok (.aload_n 0, 1) := by decide +kernel
theorem dX2_takeFromLine_24 : decode cX2_takeFromLine 24 = .ok (.getfield 28, 3) := by decide +kernel
theorem dX2_takeFromLine_27 : decode cX2_takeFromLine 27 = .ok (.iload_n 2, 1) := by decide +kernel
theorem dX2_takeFromLine_28 : decode cX2_takeFromLine 28 = .ok (.bipush 8, 2) := by decide +kernel
theorem dX2_takeFromLine_30 : decode cX2_takeFromLine 30 = .ok (.ishl, 1) := by decide +kernel
theorem dX2_takeFromLine_31 : decode cX2_takeFromLine 31 = .ok (.iload_n 1, 1) := by decide +kernel
theorem dX2_takeFromLine_32 : decode cX2_takeFromLine 32 = .ok (.ior, 1) := by decide +kernel
theorem dX2_takeFromLine_33 : decode cX2_takeFromLine 33 = .ok (.invokevirtual 82, 3) := by decide +kernel
theorem dX2_takeFromLine_36 : decode cX2_takeFromLine 36 = .ok (.aload_n 0, 1) := by decide +kernel
theorem dX2_takeFromLine_37 : decode cX2_takeFromLine 37 = .ok (.getfield 60, 3) := by decide +kernel
theorem dX2_takeFromLine_40 : decode cX2_takeFromLine 40 = .ok (.iconst 0, 1) := by decide +kernel
theorem dX2_takeFromLine_41 : decode cX2_takeFromLine 41 = .ok (.dup2, 1) := by decide +kernel
theorem dX2_takeFromLine_42 : decode cX2_takeFromLine 42 = .ok (.iaload, 1) := by decide +kernel
theorem dX2_takeFromLine_43 : decode cX2_takeFromLine 43 = .ok (.iconst 1, 1) := by decide +kernel
theorem dX2_takeFromLine_44 : decode cX2_takeFromLine 44 = .ok (.iadd, 1) := by decide +kernel
theorem dX2_takeFromLine_45 : decode cX2_takeFromLine 45 = .ok (.iastore, 1) := by decide +kernel
theorem dX2_takeFromLine_46 : decode cX2_takeFromLine 46 = .ok (.iconst 1, 1) := by decide +kernel
theorem dX2_takeFromLine_47 : decode cX2_takeFromLine 47 = .ok (.ireturn, 1) := by decide +kernel
theorem dX2_urgentByte_0 : decode cX2_urgentByte 0 = .ok (.aload_n 0, 1) := by decide +kernel
theorem dX2_urgentByte_1 : decode cX2_urgentByte 1 = .ok (.getfield 71, 3) := by decide +kernel
theorem dX2_urgentByte_4 : decode cX2_urgentByte 4 = .ok (.iconst (-1), 1) := by decide +kernel
theorem dX2_urgentByte_5 : decode cX2_urgentByte 5 = .ok (.if_icmp .ne 9, 3) := by decide +kernel
theorem dX2_urgentByte_8 : decode cX2_urgentByte 8 = .ok (.sipush 256, 3) := by decide +kernel
theorem dX2_urgentByte_11 : decode cX2_urgentByte 11 = .ok (.goto 12, 3) := by decide +kernel
theorem dX2_urgentByte_14 : decode cX2_urgentByte 14 = .ok (.aload_n 0, 1) := by decide +kernel
theorem dX2_urgentByte_15 : decode cX2_urgentByte 15 = .ok (.getfield 18, 3) := by decide +kernel
theorem dX2_urgentByte_18 : decode cX2_urgentByte 18 = .ok (.aload_n 0, 1) := by decide +kernel
theorem dX2_urgentByte_19 : decode cX2_urgentByte 19 = .ok (.getfield 71, 3) := by decide +kernel
theorem dX2_urgentByte_22 : decode cX2_urgentByte 22 = .ok (.iaload, 1) := by decide +kernel
theorem dX2_urgentByte_23 : decode cX2_urgentByte 23 = .ok (.ireturn, 1) := by decide +kernel
set_option maxRecDepth 20000 in
theorem ggX2_giveToLine_X2_urgentByte : GoodIn wsX2_giveToLine wsX2_urgentByte := goodIn_r _ [9, 1, 10, 38, 39, 40, 41, 42, 43, 44, 45, 46, 47, 48, 49, 50, 51, 52] (by decide +kernel) (by decide +kernel)
set_option maxRecDepth 20000 in
theorem gX2_giveToLine_X2_urgentByte : GoodIn wsX2_giveToLine (wsV RX2 85 RX2 yX2_urgentByte wsX2_urgentByte) := goodIn_app (goodIn_of _ (by decide +kernel)) ggX2_giveToLine_X2_urgentByte
set_option maxRecDepth 20000 in
theorem ggX2_giveToLine_X1_takeFromSender : GoodIn wsX2_giveToLine wsX1_takeFromSender := goodIn_r _ [15, 16, 17, 18, 19, 20, 21, 22, 23, 24, 25, 26, 53, 54, 55, 56, 57, 58, 59, 60] (by decide +kernel) (by decide +kernel)
set_option maxRecDepth 20000 in
theorem gX2_giveToLine_X1_takeFromSender : GoodIn wsX2_giveToLine (wsV RX2 89 RX1 yX1_takeFromSender wsX1_takeFromSender) := goodIn_app (goodIn_of _ (by decide +kernel)) ggX2_giveToLine_X1_takeFromSender
set_option maxRecDepth 20000 in
theorem ggX2_giveToLine_X5_byteHasGone : GoodIn wsX2_giveToLine wsX5_byteHasGone := goodIn_r _ [31, 32, 33, 34, 35, 36, 37, 61, 62, 63, 64, 65] (by decide +kernel) (by decide +kernel)
set_option maxRecDepth 20000 in
theorem gX2_giveToLine_X5_byteHasGone : GoodIn wsX2_giveToLine (wsV RX2 92 RX5 yX5_byteHasGone wsX5_byteHasGone) := goodIn_app (goodIn_of _ (by decide +kernel)) ggX2_giveToLine_X5_byteHasGone
theorem dX2_giveToLine_0 : decode cX2_giveToLine 0 = .ok (.aload_n 0, 1) := by decide +kernel
theorem dX2_giveToLine_1 : decode cX2_giveToLine 1 = .ok (.invokevirtual 85, 3) := by decide +kernel
theorem dX2_giveToLine_4 : decode cX2_giveToLine 4 = .ok (.istore_n 1, 1) := by decide +kernel
theorem dX2_giveToLine_5 : decode cX2_giveToLine 5 = .ok (.aload_n 0, 1) := by decide +kernel
theorem dX2_giveToLine_6 : decode cX2_giveToLine 6 = .ok (.iconst (-1), 1) := by decide +kernel
theorem dX2_giveToLine_7 : decode cX2_giveToLine 7 = .ok (.putfield 71, 3) := by decide +kernel
theorem dX2_giveToLine_10 : decode cX2_giveToLine 10 = .ok (.iload_n 1, 1) := by decide +kernel
theorem dX2_giveToLine_11 : decode cX2_giveToLine 11 = .ok (.sipush 256, 3) := by decide +kernel
theorem dX2_giveToLine_14 : decode cX2_giveToLine 14 = .ok (.if_icmp .ne 25, 3) := by decide +kernel
theorem dX2_giveToLine_17 : decode cX2_giveToLine 17 = .ok (.aload_n 0, 1) := by decide +kernel
theorem dX2_giveToLine_18 : decode cX2_giveToLine 18 = .ok (.getfield 42, 3) := by decide +kernel
theorem dX2_giveToLine_21 : decode cX2_giveToLine 21 = .ok (.invokevirtual 89, 3) := by decide +kernel
theorem dX2_giveToLine_24 : decode cX2_giveToLine 24 = .ok (.istore_n 1, 1) := by decide +kernel
theorem dX2_giveToLine_25 : decode cX2_giveToLine 25 = .ok (.iload_n 1, 1) := by decide +kernel
theorem dX2_giveToLine_26 : decode cX2_giveToLine 26 = .ok (.iconst (-1), 1) := by decide +kernel
theorem dX2_giveToLine_27 : decode cX2_giveToLine 27 = .ok (.if_icmp .ne 5, 3) := by decide +kernel
theorem dX2_giveToLine_30 : decode cX2_giveToLine 30 = .ok (.iconst (-1), 1) := by decide +kernel
theorem dX2_giveToLine_31 : decode cX2_giveToLine 31 = .ok (.ireturn, 1) := by decide +kernel
theorem dX2_giveToLine_32 : decode cX2_giveToLine 32 = .ok (.aload_n 0, 1) := by decide +kernel
theorem dX2_giveToLine_33 : decode cX2_giveToLine 33 = .ok (.getfield 49, 3) := by decide +kernel
theorem dX2_giveToLine_36 : decode cX2_giveToLine 36 = .ok (.invokevirtual 92, 3) := by decide +kernel
theorem dX2_giveToLine_39 : decode cX2_giveToLine 39 = .ok (.aload_n 0, 1) := by decide +kernel
theorem dX2_giveToLine_40 : decode cX2_giveToLine 40 = .ok (.getfield 60, 3) := by decide +kernel
theorem dX2_giveToLine_43 : decode cX2_giveToLine 43 = .ok (.iconst 4, 1) := by decide +kernel
theorem dX2_giveToLine_44 : decode cX2_giveToLine 44 = .ok (.dup2, 1) := by decide +kernel
theorem dX2_giveToLine_45 : decode cX2_giveToLine 45 = .ok (.iaload, 1) := by decide +kernel
theorem dX2_giveToLine_46 : decode cX2_giveToLine 46 = .ok (.iconst 1, 1) := by decide +kernel
theorem dX2_giveToLine_47 : decode cX2_giveToLine 47 = .ok (.iadd, 1) := by decide +kernel
theorem dX2_giveToLine_48 : decode cX2_giveToLine 48 = .ok (.iastore, 1) := by decide +kernel
theorem dX2_giveToLine_49 : decode cX2_giveToLine 49 = .ok (.iload_n 1, 1) := by decide +kernel
theorem dX2_giveToLine_50 : decode cX2_giveToLine 50 = .ok (.ireturn, 1) := by decide +kernel
set_option maxRecDepth 20000 in
theorem ggX2_settle_X1_push : GoodIn wsX2_settle wsX1_push := goodIn_r _ [6, 7, 8, 9, 10, 11, 12, 13, 14, 15, 16, 17, 18, 19, 20, 21, 22, 23, 24, 110, 111, 112, 113, 114, 115, 116, 117] (by decide +kernel) (by decide +kernel)
set_option maxRecDepth 20000 in
theorem gX2_settle_X1_push : GoodIn wsX2_settle (wsV RX2 95 RX1 yX1_push wsX1_push) := goodIn_app (goodIn_of _ (by decide +kernel)) ggX2_settle_X1_push
set_option maxRecDepth 20000 in
theorem ggX2_settle_X2_makeDueChanges : GoodIn wsX2_settle wsX2_makeDueChanges := goodIn_r _ [29, 30, 31, 32, 33, 34, 35, 36, 37, 38, 39, 40, 28, 41, 42, 43, 44, 45, 46, 47, 48, 49, 50, 51, 52, 12, 53, 15, 54, 55, 56, 57, 58, 59, 60, 61, 62, 63, 64, 65, 66, 67, 68, 69, 17, 18, 19, 14, 20, 70, 22, 23, 24, 71, 72, 73, 74, 75, 76, 77, 78, 79, 80, 81, 82, 83, 84, 85, 86, 87, 88, 89, 90, 91, 92, 93, 94, 95, 96, 97, 98, 99, 100, 101, 102, 103, 104, 105, 106, 107, 108, 109, 118, 119, 120, 121, 122, 123, 124, 125, 115, 116, 117] (by decide +kernel) (by decide +kernel)
set_option maxRecDepth 20000 in
theorem gX2_settle_X2_makeDueChanges : GoodIn wsX2_settle (wsV RX2 98 RX2 yX2_makeDueChanges wsX2_makeDueChanges) := goodIn_app (goodIn_of _ (by decide +kernel)) ggX2_settle_X2_makeDueChanges
theorem dX2_settle_0 : decode cX2_settle 0 = .ok (.aload_n 0, 1) := by decide +kernel
theorem dX2_settle_1 : decode cX2_settle 1 = .ok (.getfield 42, 3) := by decide +kernel
theorem dX2_settle_4 : decode cX2_settle 4 = .ok (.invokevirtual 95, 3) := by decide +kernel
theorem dX2_settle_7 : decode cX2_settle 7 = .ok (.aload_n 0, 1) := by decide +kernel
theorem dX2_settle_8 : decode cX2_settle 8 = .ok (.invokevirtual 98, 3) := by decide +kernel
theorem dX2_settle_11 : decode cX2_settle 11 = .ok (.return_, 1) := by decide +kernel
set_option maxRecDepth 20000 in
theorem ggX2_hangUp_X0_raise : GoodIn wsX2_hangUp wsX0_raise := goodIn_r _ [8, 9, 10, 119, 120] (by decide +kernel) (by decide +kernel)
set_option maxRecDepth 20000 in
theorem gX2_hangUp_X0_raise : GoodIn wsX2_hangUp (wsV RX2 104 RX0 yX0_raise wsX0_raise) := goodIn_app (goodIn_of _ (by decide +kernel)) ggX2_hangUp_X0_raise
set_option maxRecDepth 20000 in
theorem ggX2_hangUp_X2_emptyOutput : GoodIn wsX2_hangUp wsX2_emptyOutput := goodIn_r _ [15, 16, 17, 18, 19, 20, 21, 22, 23, 24, 25, 26, 27, 28, 29, 30, 31, 32, 33, 34, 35, 36, 37, 14, 38, 39, 40, 41, 42, 43, 44, 45, 46, 47, 48, 49, 50, 51, 52, 53, 54, 55, 56, 57, 58, 59, 60, 61, 62, 63, 64, 65, 66, 67, 68, 69, 70, 71, 72, 73, 74, 75, 76, 77, 78, 79, 80, 81, 82, 83, 84, 85, 86, 87, 88, 89, 90, 91, 92, 93, 94, 95, 96, 97, 98, 99, 100, 101, 102, 103, 104, 105, 106, 107, 108, 109, 110, 111, 112, 113, 114, 115, 116, 117, 118, 121, 122, 123, 124, 125, 126, 127, 128, 129, 130, 131, 132, 133, 134, 135, 136] (by decide +kernel) (by decide +kernel)
set_option maxRecDepth 20000 in
theorem gX2_hangUp_X2_emptyOutput : GoodIn wsX2_hangUp (wsV RX2 110 RX2 yX2_emptyOutput wsX2_emptyOutput) := goodIn_app (goodIn_of _ (by decide +kernel)) ggX2_hangUp_X2_emptyOutput
theorem dX2_hangUp_0 : decode cX2_hangUp 0 = .ok (.aload_n 0, 1) := by decide +kernel
theorem dX2_hangUp_1 : decode cX2_hangUp 1 = .ok (.iconst 1, 1) := by decide +kernel
theorem dX2_hangUp_2 : decode cX2_hangUp 2 = .ok (.putfield 101, 3) := by decide +kernel
theorem dX2_hangUp_5 : decode cX2_hangUp 5 = .ok (.aload_n 0, 1) := by decide +kernel
theorem dX2_hangUp_6 : decode cX2_hangUp 6 = .ok (.getfield 74, 3) := by decide +kernel
theorem dX2_hangUp_9 : decode cX2_hangUp 9 = .ok (.aload_n 0, 1) := by decide +kernel
theorem dX2_hangUp_10 : decode cX2_hangUp 10 = .ok (.getfield 67, 3) := by decide +kernel
theorem dX2_hangUp_13 : decode cX2_hangUp 13 = .ok (.bipush 8, 2) := by decide +kernel
theorem dX2_hangUp_15 : decode cX2_hangUp 15 = .ok (.invokevirtual 104, 3) := by decide +kernel
theorem dX2_hangUp_18 : decode cX2_hangUp 18 = .ok (.aload_n 0, 1) := by decide +kernel
theorem dX2_hangUp_19 : decode cX2_hangUp 19 = .ok (.invokevirtual 110, 3) := by decide +kernel
theorem dX2_hangUp_22 : decode cX2_hangUp 22 = .ok (.return_, 1) := by decide +kernel
theorem dX2_openFor_0 : decode cX2_openFor 0 = .ok (.aload_n 0, 1) := by decide +kernel
theorem dX2_openFor_1 : decode cX2_openFor 1 = .ok (.getfield 63, 3) := by decide +kernel
theorem dX2_openFor_4 : decode cX2_openFor 4 = .ok (.ifCond .eq 19, 3) := by decide +kernel
theorem dX2_openFor_7 : decode cX2_openFor 7 = .ok (.aload_n 0, 1) := by decide +kernel
theorem dX2_openFor_8 : decode cX2_openFor 8 = .ok (.getfield 56, 3) := by decide +kernel
theorem dX2_openFor_11 : decode cX2_openFor 11 = .ok (.iload_n 1, 1) := by decide +kernel
theorem dX2_openFor_12 : decode cX2_openFor 12 = .ok (.baload, 1) := by decide +kernel
theorem dX2_openFor_13 : decode cX2_openFor 13 = .ok (.ifCond .eq 12, 3) := by decide +kernel
theorem dX2_openFor_16 : decode cX2_openFor 16 = .ok (.aload_n 0, 1) := by decide +kernel
theorem dX2_openFor_17 : decode cX2_openFor 17 = .ok (.getfield 101, 3) := by decide +kernel
theorem dX2_openFor_20 : decode cX2_openFor 20 = .ok (.ifCond .ne 5, 3) := by decide +kernel
theorem dX2_openFor_23 : decode cX2_openFor 23 = .ok (.iconst 0, 1) := by decide +kernel
theorem dX2_openFor_24 : decode cX2_openFor 24 = .ok (.ireturn, 1) := by decide +kernel
theorem dX2_openFor_25 : decode cX2_openFor 25 = .ok (.aload_n 0, 1) := by decide +kernel
theorem dX2_openFor_26 : decode cX2_openFor 26 = .ok (.getfield 101, 3) := by decide +kernel
theorem dX2_openFor_29 : decode cX2_openFor 29 = .ok (.ifCond .eq 24, 3) := by decide +kernel
theorem dX2_openFor_32 : decode cX2_openFor 32 = .ok (.iconst 0, 1) := by decide +kernel
theorem dX2_openFor_33 : decode cX2_openFor 33 = .ok (.istore_n 2, 1) := by decide +kernel
theorem dX2_openFor_34 : decode cX2_openFor 34 = .ok (.iload_n 2, 1) := by decide +kernel
theorem dX2_openFor_35 : decode cX2_openFor 35 = .ok (.bipush 8, 2) := by decide +kernel
theorem dX2_openFor_37 : decode cX2_openFor 37 = .ok (.if_icmp .ge 16, 3) := by decide +kernel
theorem dX2_openFor_40 : decode cX2_openFor 40 = .ok (.aload_n 0, 1) := by decide +kernel
theorem dX2_openFor_41 : decode cX2_openFor 41 = .ok (.getfield 56, 3) := by decide +kernel
theorem dX2_openFor_44 : decode cX2_openFor 44 = .ok (.iload_n 2, 1) := by decide +kernel
theorem dX2_openFor_45 : decode cX2_openFor 45 = .ok (.iconst 0, 1) := by decide +kernel
theorem dX2_openFor_46 : decode cX2_openFor 46 = .ok (.bastore, 1) := by decide +kernel
theorem dX2_openFor_47 : decode cX2_openFor 47 = .ok (.iinc 2 1, 3) := by decide +kernel
theorem dX2_openFor_50 : decode cX2_openFor 50 = .ok (.goto (-16), 3) := by decide +kernel
theorem dX2_openFor_53 : decode cX2_openFor 53 = .ok (.aload_n 0, 1) := by decide +kernel
theorem dX2_openFor_54 : decode cX2_openFor 54 = .ok (.iconst 0, 1) := by decide +kernel
theorem dX2_openFor_55 : decode cX2_openFor 55 = .ok (.putfield 101, 3) := by decide +kernel
theorem dX2_openFor_58 : decode cX2_openFor 58 = .ok (.aload_n 0, 1) := by decide +kernel
theorem dX2_openFor_59 : decode cX2_openFor 59 = .ok (.getfield 56, 3) := by decide +kernel
theorem dX2_openFor_62 : decode cX2_openFor 62 = .ok (.iload_n 1, 1) := by decide +kernel
theorem dX2_openFor_63 : decode cX2_openFor 63 = .ok (.iconst 1, 1) := by decide +kernel
theorem dX2_openFor_64 : decode cX2_openFor 64 = .ok (.bastore, 1) := by decide +kernel
theorem dX2_openFor_65 : decode cX2_openFor 65 = .ok (.iconst 1, 1) := by decide +kernel
theorem dX2_openFor_66 : decode cX2_openFor 66 = .ok (.ireturn, 1) := by decide +kernel
theorem dX2_isBackground_0 : decode cX2_isBackground 0 = .ok (.aload_n 0, 1) := by decide +kernel
theorem dX2_isBackground_1 : decode cX2_isBackground 1 = .ok (.getfield 67, 3) := by decide +kernel
theorem dX2_isBackground_4 : decode cX2_isBackground 4 = .ok (.iconst (-1), 1) := by decide +kernel
theorem dX2_isBackground_5 : decode cX2_isBackground 5 = .ok (.if_icmp .eq 23, 3) := by decide +kernel
theorem dX2_isBackground_8 : decode cX2_isBackground 8 = .ok (.aload_n 0, 1) := by decide +kernel
theorem dX2_isBackground_9 : decode cX2_isBackground 9 = .ok (.getfield 74, 3) := by decide +kernel
theorem dX2_isBackground_12 : decode cX2_isBackground 12 = .ok (.getfield 113, 3) := by decide +kernel
theorem dX2_isBackground_15 : decode cX2_isBackground 15 = .ok (.iload_n 1, 1) := by decide +kernel
theorem dX2_isBackground_16 : decode cX2_isBackground 16 = .ok (.iaload, 1) := by decide +kernel
theorem dX2_isBackground_17 : decode cX2_isBackground 17 = .ok (.aload_n 0, 1) := by decide +kernel
theorem dX2_isBackground_18 : decode cX2_isBackground 18 = .ok (.getfield 67, 3) := by decide +kernel
theorem dX2_isBackground_21 : decode cX2_isBackground 21 = .ok (.if_icmp .eq 7, 3) := by decide +kernel
theorem dX2_isBackground_24 : decode cX2_isBackground 24 = .ok (.iconst 1, 1) := by decide +kernel
theorem dX2_isBackground_25 : decode cX2_isBackground 25 = .ok (.goto 4, 3) := by decide +kernel
theorem dX2_isBackground_28 : decode cX2_isBackground 28 = .ok (.iconst 0, 1) := by decide +kernel
theorem dX2_isBackground_29 : decode cX2_isBackground 29 = .ok (.ireturn, 1) := by decide +kernel
set_option maxRecDepth 20000 in
theorem ggX2_readingWaits_X2_isBackground : GoodIn wsX2_readingWaits wsX2_isBackground := goodIn_r _ [8, 9, 10, 11, 12, 13, 14, 15, 16, 17, 18, 19, 20, 21, 22, 23, 24, 25, 29, 30] (by decide +kernel) (by decide +kernel)
set_option maxRecDepth 20000 in
theorem gX2_readingWaits_X2_isBackground : GoodIn wsX2_readingWaits (wsV RX2 116 RX2 yX2_isBackground wsX2_isBackground) := goodIn_app (goodIn_of _ (by decide +kernel)) ggX2_readingWaits_X2_isBackground
theorem dX2_readingWaits_0 : decode cX2_readingWaits 0 = .ok (.aload_n 0, 1) := by decide +kernel
theorem dX2_readingWaits_1 : decode cX2_readingWaits 1 = .ok (.getfield 56, 3) := by decide +kernel
theorem dX2_readingWaits_4 : decode cX2_readingWaits 4 = .ok (.iload_n 1, 1) := by decide +kernel
theorem dX2_readingWaits_5 : decode cX2_readingWaits 5 = .ok (.baload, 1) := by decide +kernel
theorem dX2_readingWaits_6 : decode cX2_readingWaits 6 = .ok (.ifCond .eq 32, 3) := by decide +kernel
theorem dX2_readingWaits_9 : decode cX2_readingWaits 9 = .ok (.aload_n 0, 1) := by decide +kernel
theorem dX2_readingWaits_10 : decode cX2_readingWaits 10 = .ok (.iload_n 1, 1) := by decide +kernel
theorem dX2_readingWaits_11 : decode cX2_readingWaits 11 = .ok (.invokevirtual 116, 3) := by decide +kernel
theorem dX2_readingWaits_14 : decode cX2_readingWaits 14 = .ok (.ifCond .ne 24, 3) := by decide +kernel
theorem dX2_readingWaits_17 : decode cX2_readingWaits 17 = .ok (.aload_n 0, 1) := by decide +kernel
theorem dX2_readingWaits_18 : decode cX2_readingWaits 18 = .ok (.getfield 35, 3) := by decide +kernel
theorem dX2_readingWaits_21 : decode cX2_readingWaits 21 = .ok (.getfield 119, 3) := by decide +kernel
theorem dX2_readingWaits_24 : decode cX2_readingWaits 24 = .ok (.ifCond .ne 14, 3) := by decide +kernel
theorem dX2_readingWaits_27 : decode cX2_readingWaits 27 = .ok (.aload_n 0, 1) := by decide +kernel
theorem dX2_readingWaits_28 : decode cX2_readingWaits 28 = .ok (.getfield 101, 3) := by decide +kernel
theorem dX2_readingWaits_31 : decode cX2_readingWaits 31 = .ok (.ifCond .ne 7, 3) := by decide +kernel
theorem dX2_readingWaits_34 : decode cX2_readingWaits 34 = .ok (.iconst 1, 1) := by decide +kernel
theorem dX2_readingWaits_35 : decode cX2_readingWaits 35 = .ok (.goto 4, 3) := by decide +kernel
theorem dX2_readingWaits_38 : decode cX2_readingWaits 38 = .ok (.iconst 0, 1) := by decide +kernel
theorem dX2_readingWaits_39 : decode cX2_readingWaits 39 = .ok (.ireturn, 1) := by decide +kernel
set_option maxRecDepth 20000 in
theorem ggX2_takeEntry_X4_takeReleased : GoodIn wsX2_takeEntry wsX4_takeReleased := goodIn_r _ [6, 7, 8, 9, 10, 11, 12, 13, 14, 15, 16, 39, 40, 41, 42, 43, 44] (by decide +kernel) (by decide +kernel)
set_option maxRecDepth 20000 in
theorem gX2_takeEntry_X4_takeReleased : GoodIn wsX2_takeEntry (wsV RX2 122 RX4 yX4_takeReleased wsX4_takeReleased) := goodIn_app (goodIn_of _ (by decide +kernel)) ggX2_takeEntry_X4_takeReleased
set_option maxRecDepth 20000 in
theorem ggX2_takeEntry_X2_relax : GoodIn wsX2_takeEntry wsX2_relax := goodIn_r _ [21, 22, 1, 23, 24, 25, 26, 27, 28, 29, 30, 31, 32, 33, 34, 35, 36, 37, 38, 39, 40, 41, 42, 43, 44] (by decide +kernel) (by decide +kernel)
set_option maxRecDepth 20000 in
theorem gX2_takeEntry_X2_relax : GoodIn wsX2_takeEntry (wsV RX2 125 RX2 yX2_relax wsX2_relax) := goodIn_app (goodIn_of _ (by decide +kernel)) ggX2_takeEntry_X2_relax
theorem dX2_takeEntry_0 : decode cX2_takeEntry 0 = .ok (.aload_n 0, 1) := by decide +kernel
theorem dX2_takeEntry_1 : decode cX2_takeEntry 1 = .ok (.getfield 35, 3) := by decide +kernel
theorem dX2_takeEntry_4 : decode cX2_takeEntry 4 = .ok (.invokevirtual 122, 3) := by decide +kernel
theorem dX2_takeEntry_7 : decode cX2_takeEntry 7 = .ok (.istore_n 1, 1) := by decide +kernel
theorem dX2_takeEntry_8 : decode cX2_takeEntry 8 = .ok (.aload_n 0, 1) := by decide +kernel
theorem dX2_takeEntry_9 : decode cX2_takeEntry 9 = .ok (.invokevirtual 125, 3) := by decide +kernel
theorem dX2_takeEntry_12 : decode cX2_takeEntry 12 = .ok (.iload_n 1, 1) := by decide +kernel
theorem dX2_takeEntry_13 : decode cX2_takeEntry 13 = .ok (.sipush 256, 3) := by decide +kernel
theorem dX2_takeEntry_16 : decode cX2_takeEntry 16 = .ok (.if_icmp .ne 8, 3) := by decide +kernel
theorem dX2_takeEntry_19 : decode cX2_takeEntry 19 = .ok (.bipush (-3), 2) := by decide +kernel
theorem dX2_takeEntry_21 : decode cX2_takeEntry 21 = .ok (.goto 4, 3) := by decide +kernel
theorem dX2_takeEntry_24 : decode cX2_takeEntry 24 = .ok (.iload_n 1, 1) := by decide +kernel
theorem dX2_takeEntry_25 : decode cX2_takeEntry 25 = .ok (.ireturn, 1) := by decide +kernel
set_option maxRecDepth 20000 in
theorem ggX2_emptyStore_X4_empty : GoodIn wsX2_emptyStore wsX4_empty := goodIn_r _ [6, 7, 8, 9, 10, 11, 12, 13, 14, 37, 38, 39, 40, 41, 42] (by decide +kernel) (by decide +kernel)
set_option maxRecDepth 20000 in
theorem gX2_emptyStore_X4_empty : GoodIn wsX2_emptyStore (wsV RX2 128 RX4 yX4_empty wsX4_empty) := goodIn_app (goodIn_of _ (by decide +kernel)) ggX2_emptyStore_X4_empty
set_option maxRecDepth 20000 in
theorem ggX2_emptyStore_X2_relax : GoodIn wsX2_emptyStore wsX2_relax := goodIn_r _ [19, 20, 1, 21, 22, 23, 24, 25, 26, 27, 28, 29, 30, 31, 32, 33, 34, 35, 36, 37, 38, 39, 40, 41, 42] (by decide +kernel) (by decide +kernel)
set_option maxRecDepth 20000 in
theorem gX2_emptyStore_X2_relax : GoodIn wsX2_emptyStore (wsV RX2 125 RX2 yX2_relax wsX2_relax) := goodIn_app (goodIn_of _ (by decide +kernel)) ggX2_emptyStore_X2_relax
theorem dX2_emptyStore_0 : decode cX2_emptyStore 0 = .ok (.aload_n 0, 1) := by decide +kernel
theorem dX2_emptyStore_1 : decode cX2_emptyStore 1 = .ok (.getfield 35, 3) := by decide +kernel
theorem dX2_emptyStore_4 : decode cX2_emptyStore 4 = .ok (.invokevirtual 128, 3) := by decide +kernel
theorem dX2_emptyStore_7 : decode cX2_emptyStore 7 = .ok (.aload_n 0, 1) := by decide +kernel
theorem dX2_emptyStore_8 : decode cX2_emptyStore 8 = .ok (.invokevirtual 125, 3) := by decide +kernel
theorem dX2_emptyStore_11 : decode cX2_emptyStore 11 = .ok (.return_, 1) := by decide +kernel
set_option maxRecDepth 20000 in
theorem ggX2_emptyOutput_X3_empty : GoodIn wsX2_emptyOutput wsX3_empty := goodIn_r _ [7, 8, 110, 111, 112] (by decide +kernel) (by decide +kernel)
set_option maxRecDepth 20000 in
theorem gX2_emptyOutput_X3_empty : GoodIn wsX2_emptyOutput (wsV RX2 134 RX3 yX3_empty wsX3_empty) := goodIn_app (goodIn_of _ (by decide +kernel)) ggX2_emptyOutput_X3_empty
set_option maxRecDepth 20000 in
theorem ggX2_emptyOutput_X5_onlyLeft : GoodIn wsX2_emptyOutput wsX5_onlyLeft := goodIn_r _ [13, 14, 15, 16, 17, 18, 19, 113, 114, 115, 116, 117] (by decide +kernel) (by decide +kernel)
set_option maxRecDepth 20000 in
theorem gX2_emptyOutput_X5_onlyLeft : GoodIn wsX2_emptyOutput (wsV RX2 138 RX5 yX5_onlyLeft wsX5_onlyLeft) := goodIn_app (goodIn_of _ (by decide +kernel)) ggX2_emptyOutput_X5_onlyLeft
set_option maxRecDepth 20000 in
theorem ggX2_emptyOutput_X2_makeDueChanges : GoodIn wsX2_emptyOutput wsX2_makeDueChanges := goodIn_r _ [24, 2, 25, 26, 27, 12, 28, 14, 15, 29, 30, 31, 23, 32, 33, 34, 35, 36, 37, 38, 39, 40, 41, 4, 5, 6, 7, 8, 42, 43, 44, 45, 46, 47, 48, 49, 50, 51, 52, 53, 54, 55, 56, 57, 58, 59, 60, 61, 62, 63, 64, 65, 66, 67, 68, 69, 70, 71, 72, 73, 74, 75, 76, 18, 77, 78, 79, 80, 81, 82, 83, 84, 85, 86, 87, 88, 89, 90, 91, 92, 93, 94, 95, 96, 97, 98, 99, 100, 101, 102, 103, 104, 113, 114, 115, 116, 117, 118, 119, 120, 110, 111, 112] (by decide +kernel) (by decide +kernel)
set_option maxRecDepth 20000 in
theorem gX2_emptyOutput_X2_makeDueChanges : GoodIn wsX2_emptyOutput (wsV RX2 98 RX2 yX2_makeDueChanges wsX2_makeDueChanges) := goodIn_app (goodIn_of _ (by decide +kernel)) ggX2_emptyOutput_X2_makeDueChanges
theorem dX2_emptyOutput_0 : decode cX2_emptyOutput 0 = .ok (.aload_n 0, 1) := by decide +kernel
theorem dX2_emptyOutput_1 : decode cX2_emptyOutput 1 = .ok (.getfield 42, 3) := by decide +kernel
theorem dX2_emptyOutput_4 : decode cX2_emptyOutput 4 = .ok (.getfield 131, 3) := by decide +kernel
theorem dX2_emptyOutput_7 : decode cX2_emptyOutput 7 = .ok (.invokevirtual 134, 3) := by decide +kernel
theorem dX2_emptyOutput_10 : decode cX2_emptyOutput 10 = .ok (.aload_n 0, 1) := by decide +kernel
theorem dX2_emptyOutput_11 : decode cX2_emptyOutput 11 = .ok (.getfield 42, 3) := by decide +kernel
theorem dX2_emptyOutput_14 : decode cX2_emptyOutput 14 = .ok (.getfield 135, 3) := by decide +kernel
theorem dX2_emptyOutput_17 : decode cX2_emptyOutput 17 = .ok (.invokevirtual 134, 3) := by decide +kernel
theorem dX2_emptyOutput_20 : decode cX2_emptyOutput 20 = .ok (.aload_n 0, 1) := by decide +kernel
theorem dX2_emptyOutput_21 : decode cX2_emptyOutput 21 = .ok (.getfield 49, 3) := by decide +kernel
theorem dX2_emptyOutput_24 : decode cX2_emptyOutput 24 = .ok (.iconst 0, 1) := by decide +kernel
theorem dX2_emptyOutput_25 : decode cX2_emptyOutput 25 = .ok (.invokevirtual 138, 3) := by decide +kernel
theorem dX2_emptyOutput_28 : decode cX2_emptyOutput 28 = .ok (.aload_n 0, 1) := by decide +kernel
theorem dX2_emptyOutput_29 : decode cX2_emptyOutput 29 = .ok (.invokevirtual 98, 3) := by decide +kernel
theorem dX2_emptyOutput_32 : decode cX2_emptyOutput 32 = .ok (.return_, 1) := by decide +kernel
theorem dX2_relax_0 : decode cX2_relax 0 = .ok (.aload_n 0, 1) := by decide +kernel
theorem dX2_relax_1 : decode cX2_relax 1 = .ok (.getfield 141, 3) := by decide +kernel
theorem dX2_relax_4 : decode cX2_relax 4 = .ok (.ifCond .eq 29, 3) := by decide +kernel
theorem dX2_relax_7 : decode cX2_relax 7 = .ok (.aload_n 0, 1) := by decide +kernel
theorem dX2_relax_8 : decode cX2_relax 8 = .ok (.getfield 35, 3) := by decide +kernel
theorem dX2_relax_11 : decode cX2_relax 11 = .ok (.getfield 144, 3) := by decide +kernel
theorem dX2_relax_14 : decode cX2_relax 14 = .ok (.getfield 147, 3) := by decide +kernel
theorem dX2_relax_17 : decode cX2_relax 17 = .ok (.bipush 16, 2) := by decide +kernel
theorem dX2_relax_19 : decode cX2_relax 19 = .ok (.if_icmp .gt 14, 3) := by decide +kernel
theorem dX2_relax_22 : decode cX2_relax 22 = .ok (.aload_n 0, 1) := by decide +kernel
theorem dX2_relax_23 : decode cX2_relax 23 = .ok (.iconst 0, 1) := by decide +kernel
theorem dX2_relax_24 : decode cX2_relax 24 = .ok (.putfield 141, 3) := by decide +kernel
theorem dX2_relax_27 : decode cX2_relax 27 = .ok (.aload_n 0, 1) := by decide +kernel
theorem dX2_relax_28 : decode cX2_relax 28 = .ok (.bipush 23, 2) := by decide +kernel
theorem dX2_relax_30 : decode cX2_relax 30 = .ok (.putfield 71, 3) := by decide +kernel
theorem dX2_relax_33 : decode cX2_relax 33 = .ok (.return_, 1) := by decide +kernel
set_option maxRecDepth 20000 in
theorem ggX2_changeLater_X1_size : GoodIn wsX2_changeLater wsX1_size := goodIn_r _ [7, 8, 9, 108, 109, 110, 111, 112, 113, 114, 115] (by decide +kernel) (by decide +kernel)
set_option maxRecDepth 20000 in
theorem gX2_changeLater_X1_size : GoodIn wsX2_changeLater (wsV RX2 150 RX1 yX1_size wsX1_size) := goodIn_app (goodIn_of _ (by decide +kernel)) ggX2_changeLater_X1_size
set_option maxRecDepth 20000 in
theorem ggX2_changeLater_X5_add : GoodIn wsX2_changeLater wsX5_add := goodIn_r _ [14, 15, 16, 17, 18, 19, 116, 117, 118, 119, 120] (by decide +kernel) (by decide +kernel)
set_option maxRecDepth 20000 in
theorem gX2_changeLater_X5_add : GoodIn wsX2_changeLater (wsV RX2 152 RX5 yX5_add wsX5_add) := goodIn_app (goodIn_of _ (by decide +kernel)) ggX2_changeLater_X5_add
set_option maxRecDepth 20000 in
theorem ggX2_changeLater_X2_makeDueChanges : GoodIn wsX2_changeLater wsX2_makeDueChanges := goodIn_r _ [24, 1, 25, 26, 27, 13, 28, 15, 19, 29, 30, 31, 23, 32, 33, 34, 35, 36, 37, 38, 39, 40, 41, 42, 43, 44, 45, 46, 47, 48, 49, 50, 51, 52, 53, 54, 55, 56, 57, 58, 59, 60, 61, 62, 63, 64, 65, 66, 67, 68, 69, 70, 71, 72, 73, 74, 75, 76, 77, 78, 79, 80, 81, 82, 83, 84, 85, 86, 87, 88, 89, 90, 91, 16, 17, 18, 92, 93, 94, 95, 96, 97, 98, 99, 100, 101, 102, 103, 104, 105, 106, 107, 116, 117, 118, 119, 120, 121, 122, 123, 113, 114, 115] (by decide +kernel) (by decide +kernel)
set_option maxRecDepth 20000 in
theorem gX2_changeLater_X2_makeDueChanges : GoodIn wsX2_changeLater (wsV RX2 98 RX2 yX2_makeDueChanges wsX2_makeDueChanges) := goodIn_app (goodIn_of _ (by decide +kernel)) ggX2_changeLater_X2_makeDueChanges
theorem dX2_changeLater_0 : decode cX2_changeLater 0 = .ok (.aload_n 0, 1) := by decide +kernel
theorem dX2_changeLater_1 : decode cX2_changeLater 1 = .ok (.getfield 49, 3) := by decide +kernel
theorem dX2_changeLater_4 : decode cX2_changeLater 4 = .ok (.iload_n 1, 1) := by decide +kernel
theorem dX2_changeLater_5 : decode cX2_changeLater 5 = .ok (.iload_n 2, 1) := by decide +kernel
theorem dX2_changeLater_6 : decode cX2_changeLater 6 = .ok (.iload_n 3, 1) := by decide +kernel
theorem dX2_changeLater_7 : decode cX2_changeLater 7 = .ok (.aload_n 0, 1) := by decide +kernel
theorem dX2_changeLater_8 : decode cX2_changeLater 8 = .ok (.getfield 42, 3) := by decide +kernel
theorem dX2_changeLater_11 : decode cX2_changeLater 11 = .ok (.invokevirtual 150, 3) := by decide +kernel
theorem dX2_changeLater_14 : decode cX2_changeLater 14 = .ok (.invokevirtual 152, 3) := by decide +kernel
theorem dX2_changeLater_17 : decode cX2_changeLater 17 = .ok (.ifCond .ne 5, 3) := by decide +kernel
theorem dX2_changeLater_20 : decode cX2_changeLater 20 = .ok (.iconst 0, 1) := by decide +kernel
theorem dX2_changeLater_21 : decode cX2_changeLater 21 = .ok (.ireturn, 1) := by decide +kernel
theorem dX2_changeLater_22 : decode cX2_changeLater 22 = .ok (.aload_n 0, 1) := by decide +kernel
theorem dX2_changeLater_23 : decode cX2_changeLater 23 = .ok (.invokevirtual 98, 3) := by decide +kernel
theorem dX2_changeLater_26 : decode cX2_changeLater 26 = .ok (.iconst 1, 1) := by decide +kernel
theorem dX2_changeLater_27 : decode cX2_changeLater 27 = .ok (.ireturn, 1) := by decide +kernel
set_option maxRecDepth 20000 in
theorem ggX2_makeDueChanges_X5_isFirstDue : GoodIn wsX2_makeDueChanges wsX5_isFirstDue := goodIn_r _ [6, 7, 8, 92, 93, 94, 95, 96] (by decide +kernel) (by decide +kernel)
set_option maxRecDepth 20000 in
theorem gX2_makeDueChanges_X5_isFirstDue : GoodIn wsX2_makeDueChanges (wsV RX2 155 RX5 yX5_isFirstDue wsX5_isFirstDue) := goodIn_app (goodIn_of _ (by decide +kernel)) ggX2_makeDueChanges_X5_isFirstDue
set_option maxRecDepth 20000 in
theorem ggX2_makeDueChanges_X2_emptyStore : GoodIn wsX2_makeDueChanges wsX2_emptyStore := goodIn_r _ [13, 14, 15, 16, 17, 18, 19, 20, 21, 22, 23, 24, 25, 26, 27, 28, 29, 30, 12, 31, 32, 33, 77, 78, 79, 80, 81, 82, 83, 84, 85, 86, 87, 88, 89, 90, 91, 97, 98, 99, 100, 101, 102] (by decide +kernel) (by decide +kernel)
set_option maxRecDepth 20000 in
theorem gX2_makeDueChanges_X2_emptyStore : GoodIn wsX2_makeDueChanges (wsV RX2 162 RX2 yX2_emptyStore wsX2_emptyStore) := goodIn_app (goodIn_of _ (by decide +kernel)) ggX2_makeDueChanges_X2_emptyStore
set_option maxRecDepth 20000 in
theorem ggX2_makeDueChanges_X2_setMode : GoodIn wsX2_makeDueChanges wsX2_setMode := goodIn_r _ [37, 38, 14, 39, 40, 41, 18, 42, 20, 43, 44, 45, 25, 46, 27, 47, 48, 49, 50, 51, 52, 53, 54, 55, 56, 21, 28, 29, 30, 12, 31, 32, 33, 57, 58, 59, 60, 61, 62, 63, 64, 65, 66, 67, 68, 77, 78, 79, 80, 81, 82, 83, 84, 85, 86, 87, 88, 89, 90, 91, 97, 98, 99, 100, 101, 102] (by decide +kernel) (by decide +kernel)
set_option maxRecDepth 20000 in
theorem gX2_makeDueChanges_X2_setMode : GoodIn wsX2_makeDueChanges (wsV RX2 171 RX2 yX2_setMode wsX2_setMode) := goodIn_app (goodIn_of _ (by decide +kernel)) ggX2_makeDueChanges_X2_setMode
set_option maxRecDepth 20000 in
theorem ggX2_makeDueChanges_X5_removeFirst : GoodIn wsX2_makeDueChanges wsX5_removeFirst := goodIn_r _ [72, 7, 73, 74, 75, 8, 76, 62, 63, 64, 92, 93, 94, 95, 96] (by decide +kernel) (by decide +kernel)
set_option maxRecDepth 20000 in
theorem gX2_makeDueChanges_X5_removeFirst : GoodIn wsX2_makeDueChanges (wsV RX2 174 RX5 yX5_removeFirst wsX5_removeFirst) := goodIn_app (goodIn_of _ (by decide +kernel)) ggX2_makeDueChanges_X5_removeFirst
theorem dX2_makeDueChanges_0 : decode cX2_makeDueChanges 0 = .ok (.iconst 0, 1) := by decide +kernel
theorem dX2_makeDueChanges_1 : decode cX2_makeDueChanges 1 = .ok (.istore_n 1, 1) := by decide +kernel
theorem dX2_makeDueChanges_2 : decode cX2_makeDueChanges 2 = .ok (.iload_n 1, 1) := by decide +kernel
theorem dX2_makeDueChanges_3 : decode cX2_makeDueChanges 3 = .ok (.iconst 3, 1) := by decide +kernel
theorem dX2_makeDueChanges_4 : decode cX2_makeDueChanges 4 = .ok (.if_icmp .ge 64, 3) := by decide +kernel
theorem dX2_makeDueChanges_7 : decode cX2_makeDueChanges 7 = .ok (.aload_n 0, 1) := by decide +kernel
theorem dX2_makeDueChanges_8 : decode cX2_makeDueChanges 8 = .ok (.getfield 49, 3) := by decide +kernel
theorem dX2_makeDueChanges_11 : decode cX2_makeDueChanges 11 = .ok (.invokevirtual 155, 3) := by decide +kernel
theorem dX2_makeDueChanges_14 : decode cX2_makeDueChanges 14 = .ok (.ifCond .eq 54, 3) := by decide +kernel
theorem dX2_makeDueChanges_17 : decode cX2_makeDueChanges 17 = .ok (.aload_n 0, 1) := by decide +kernel
theorem dX2_makeDueChanges_18 : decode cX2_makeDueChanges 18 = .ok (.getfield 49, 3) := by decide +kernel
theorem dX2_makeDueChanges_21 : decode cX2_makeDueChanges 21 = .ok (.getfield 159, 3) := by decide +kernel
theorem dX2_makeDueChanges_24 : decode cX2_makeDueChanges 24 = .ok (.iconst 0, 1) := by decide +kernel
theorem dX2_makeDueChanges_25 : decode cX2_makeDueChanges 25 = .ok (.baload, 1) := by decide +kernel
theorem dX2_makeDueChanges_26 : decode cX2_makeDueChanges 26 = .ok (.ifCond .eq 7, 3) := by decide +kernel
theorem dX2_makeDueChanges_29 : decode cX2_makeDueChanges 29 = .ok (.aload_n 0, 1) := by decide +kernel
theorem dX2_makeDueChanges_30 : decode cX2_makeDueChanges 30 = .ok (.invokevirtual 162, 3) := by decide +kernel
theorem dX2_makeDueChanges_33 : decode cX2_makeDueChanges 33 = .ok (.aload_n 0, 1) := by decide +kernel
theorem dX2_makeDueChanges_34 : decode cX2_makeDueChanges 34 = .ok (.aload_n 0, 1) := by decide +kernel
theorem dX2_makeDueChanges_35 : decode cX2_makeDueChanges 35 = .ok (.getfield 49, 3) := by decide +kernel
theorem dX2_makeDueChanges_38 : decode cX2_makeDueChanges 38 = .ok (.getfield 165, 3) := by decide +kernel
theorem dX2_makeDueChanges_41 : decode cX2_makeDueChanges 41 = .ok (.iconst 0, 1) := by decide +kernel
theorem dX2_makeDueChanges_42 : decode cX2_makeDueChanges 42 = .ok (.iaload, 1) := by decide +kernel
theorem dX2_makeDueChanges_43 : decode cX2_makeDueChanges 43 = .ok (.aload_n 0, 1) := by decide +kernel
theorem dX2_makeDueChanges_44 : decode cX2_makeDueChanges 44 = .ok (.getfield 49, 3) := by decide +kernel
theorem dX2_makeDueChanges_47 : decode cX2_makeDueChanges 47 = .ok (.getfield 168, 3) := by decide +kernel
theorem dX2_makeDueChanges_50 : decode cX2_makeDueChanges 50 = .ok (.iconst 0, 1) := by decide +kernel
theorem dX2_makeDueChanges_51 : decode cX2_makeDueChanges 51 = .ok (.iaload, 1) := by decide +kernel
theorem dX2_makeDueChanges_52 : decode cX2_makeDueChanges 52 = .ok (.invokevirtual 171, 3) := by decide +kernel
theorem dX2_makeDueChanges_55 : decode cX2_makeDueChanges 55 = .ok (.aload_n 0, 1) := by decide +kernel
theorem dX2_makeDueChanges_56 : decode cX2_makeDueChanges 56 = .ok (.getfield 49, 3) := by decide +kernel
theorem dX2_makeDueChanges_59 : decode cX2_makeDueChanges 59 = .ok (.invokevirtual 174, 3) := by decide +kernel
theorem dX2_makeDueChanges_62 : decode cX2_makeDueChanges 62 = .ok (.iinc 1 1, 3) := by decide +kernel
theorem dX2_makeDueChanges_65 : decode cX2_makeDueChanges 65 = .ok (.goto (-63), 3) := by decide +kernel
theorem dX2_makeDueChanges_68 : decode cX2_makeDueChanges 68 = .ok (.return_, 1) := by decide +kernel
set_option maxRecDepth 20000 in
theorem ggX2_setMode_X4_dropEndMarks : GoodIn wsX2_setMode wsX4_dropEndMarks := goodIn_r _ [7, 8, 9, 10, 11, 12, 13, 14, 15, 16, 17, 18, 19, 20, 60, 61, 62, 63, 64, 65] (by decide +kernel) (by decide +kernel)
set_option maxRecDepth 20000 in
theorem gX2_setMode_X4_dropEndMarks : GoodIn wsX2_setMode (wsV RX2 177 RX4 yX4_dropEndMarks wsX4_dropEndMarks) := goodIn_app (goodIn_of _ (by decide +kernel)) ggX2_setMode_X4_dropEndMarks
set_option maxRecDepth 20000 in
theorem ggX2_setMode_X4_releaseAll : GoodIn wsX2_setMode wsX4_releaseAll := goodIn_r _ [24, 8, 25, 60, 61, 62, 63, 64, 65] (by decide +kernel) (by decide +kernel)
set_option maxRecDepth 20000 in
theorem gX2_setMode_X4_releaseAll : GoodIn wsX2_setMode (wsV RX2 180 RX4 yX4_releaseAll wsX4_releaseAll) := goodIn_app (goodIn_of _ (by decide +kernel)) ggX2_setMode_X4_releaseAll
set_option maxRecDepth 20000 in
theorem ggX2_setMode_X2_relax : GoodIn wsX2_setMode wsX2_relax := goodIn_r _ [30, 31, 2, 32, 45, 46, 47, 48, 49, 50, 51, 52, 53, 54, 55, 56, 57, 58, 59, 60, 61, 62, 63, 64, 65] (by decide +kernel) (by decide +kernel)
set_option maxRecDepth 20000 in
theorem gX2_setMode_X2_relax : GoodIn wsX2_setMode (wsV RX2 125 RX2 yX2_relax wsX2_relax) := goodIn_app (goodIn_of _ (by decide +kernel)) ggX2_setMode_X2_relax
set_option maxRecDepth 20000 in
theorem ggX2_setMode_X2_releaseIfEnough : GoodIn wsX2_setMode wsX2_releaseIfEnough := goodIn_r _ [36, 2, 1, 37, 38, 39, 40, 41, 42, 43, 29, 44, 21, 22, 23, 6, 24, 8, 25, 45, 46, 47, 48, 49, 50, 51, 52, 53, 54, 55, 56, 57, 58, 59, 60, 61, 62, 63, 64, 65] (by decide +kernel) (by decide +kernel)
set_option maxRecDepth 20000 in
theorem gX2_setMode_X2_releaseIfEnough : GoodIn wsX2_setMode (wsV RX2 183 RX2 yX2_releaseIfEnough wsX2_releaseIfEnough) := goodIn_app (goodIn_of _ (by decide +kernel)) ggX2_setMode_X2_releaseIfEnough
theorem dX2_setMode_0 : decode cX2_setMode 0 = .ok (.aload_n 0, 1) := by decide +kernel
theorem dX2_setMode_1 : decode cX2_setMode 1 = .ok (.getfield 18, 3) := by decide +kernel
theorem dX2_setMode_4 : decode cX2_setMode 4 = .ok (.iload_n 1, 1) := by decide +kernel
theorem dX2_setMode_5 : decode cX2_setMode 5 = .ok (.iload_n 2, 1) := by decide +kernel
theorem dX2_setMode_6 : decode cX2_setMode 6 = .ok (.iastore, 1) := by decide +kernel
theorem dX2_setMode_7 : decode cX2_setMode 7 = .ok (.iload_n 1, 1) := by decide +kernel
theorem dX2_setMode_8 : decode cX2_setMode 8 = .ok (.ifCond .ne 25, 3) := by decide +kernel
theorem dX2_setMode_11 : decode cX2_setMode 11 = .ok (.iload_n 2, 1) := by decide +kernel
theorem dX2_setMode_12 : decode cX2_setMode 12 = .ok (.ifCond .ne 21, 3) := by decide +kernel
theorem dX2_setMode_15 : decode cX2_setMode 15 = .ok (.aload_n 0, 1) := by decide +kernel
theorem dX2_setMode_16 : decode cX2_setMode 16 = .ok (.getfield 35, 3) := by decide +kernel
theorem dX2_setMode_19 : decode cX2_setMode 19 = .ok (.invokevirtual 177, 3) := by decide +kernel
theorem dX2_setMode_22 : decode cX2_setMode 22 = .ok (.aload_n 0, 1) := by decide +kernel
theorem dX2_setMode_23 : decode cX2_setMode 23 = .ok (.getfield 35, 3) := by decide +kernel
theorem dX2_setMode_26 : decode cX2_setMode 26 = .ok (.invokevirtual 180, 3) := by decide +kernel
theorem dX2_setMode_29 : decode cX2_setMode 29 = .ok (.aload_n 0, 1) := by decide +kernel
theorem dX2_setMode_30 : decode cX2_setMode 30 = .ok (.invokevirtual 125, 3) := by decide +kernel
theorem dX2_setMode_33 : decode cX2_setMode 33 = .ok (.iload_n 1, 1) := by decide +kernel
theorem dX2_setMode_34 : decode cX2_setMode 34 = .ok (.bipush 12, 2) := by decide +kernel
theorem dX2_setMode_36 : decode cX2_setMode 36 = .ok (.if_icmp .ne 7, 3) := by decide +kernel
theorem dX2_setMode_39 : decode cX2_setMode 39 = .ok (.aload_n 0, 1) := by decide +kernel
theorem dX2_setMode_40 : decode cX2_setMode 40 = .ok (.invokevirtual 183, 3) := by decide +kernel
theorem dX2_setMode_43 : decode cX2_setMode 43 = .ok (.return_, 1) := by decide +kernel
set_option maxRecDepth 20000 in
theorem ggX2_releaseIfEnough_X2_isOn : GoodIn wsX2_releaseIfEnough wsX2_isOn := goodIn_r _ [11, 2, 19, 20, 21, 22, 23, 24, 25, 26, 27, 28, 29, 30, 31, 32, 33] (by decide +kernel) (by decide +kernel)
set_option maxRecDepth 20000 in
theorem gX2_releaseIfEnough_X2_isOn : GoodIn wsX2_releaseIfEnough (wsV RX2 186 RX2 yX2_isOn wsX2_isOn) := goodIn_app (goodIn_of _ (by decide +kernel)) ggX2_releaseIfEnough_X2_isOn
set_option maxRecDepth 20000 in
theorem ggX2_releaseIfEnough_X4_releaseAll : GoodIn wsX2_releaseIfEnough wsX4_releaseAll := goodIn_r _ [16, 17, 18, 34, 35, 36, 37, 38, 39] (by decide +kernel) (by decide +kernel)
set_option maxRecDepth 20000 in
theorem gX2_releaseIfEnough_X4_releaseAll : GoodIn wsX2_releaseIfEnough (wsV RX2 180 RX4 yX4_releaseAll wsX4_releaseAll) := goodIn_app (goodIn_of _ (by decide +kernel)) ggX2_releaseIfEnough_X4_releaseAll
theorem dX2_releaseIfEnough_0 : decode cX2_releaseIfEnough 0 = .ok (.aload_n 0, 1) := by decide +kernel
theorem dX2_releaseIfEnough_1 : decode cX2_releaseIfEnough 1 = .ok (.iconst 0, 1) := by decide +kernel
theorem dX2_releaseIfEnough_2 : decode cX2_releaseIfEnough 2 = .ok (.invokevirtual 186, 3) := by decide +kernel
theorem dX2_releaseIfEnough_5 : decode cX2_releaseIfEnough 5 = .ok (.ifCond .ne 34, 3) := by decide +kernel
theorem dX2_releaseIfEnough_8 : decode cX2_releaseIfEnough 8 = .ok (.aload_n 0, 1) := by decide +kernel
theorem dX2_releaseIfEnough_9 : decode cX2_releaseIfEnough 9 = .ok (.getfield 35, 3) := by decide +kernel
theorem dX2_releaseIfEnough_12 : decode cX2_releaseIfEnough 12 = .ok (.getfield 144, 3) := by decide +kernel
theorem dX2_releaseIfEnough_15 : decode cX2_releaseIfEnough 15 = .ok (.getfield 147, 3) := by decide +kernel
theorem dX2_releaseIfEnough_18 : decode cX2_releaseIfEnough 18 = .ok (.iconst 1, 1) := by decide +kernel
theorem dX2_releaseIfEnough_19 : decode cX2_releaseIfEnough 19 = .ok (.aload_n 0, 1) := by decide +kernel
theorem dX2_releaseIfEnough_20 : decode cX2_releaseIfEnough 20 = .ok (.getfield 18, 3) := by decide +kernel
theorem dX2_releaseIfEnough_23 : decode cX2_releaseIfEnough 23 = .ok (.bipush 12, 2) := by decide +kernel
theorem dX2_releaseIfEnough_25 : decode cX2_releaseIfEnough 25 = .ok (.iaload, 1) := by decide +kernel
theorem dX2_releaseIfEnough_26 : decode cX2_releaseIfEnough 26 = .ok (.invokestatic 189, 3) := by decide +kernel
theorem dX2_releaseIfEnough_29 : decode cX2_releaseIfEnough 29 = .ok (.if_icmp .lt 10, 3) := by decide +kernel
theorem dX2_releaseIfEnough_32 : decode cX2_releaseIfEnough 32 = .ok (.aload_n 0, 1) := by decide +kernel
theorem dX2_releaseIfEnough_33 : decode cX2_releaseIfEnough 33 = .ok (.getfield 35, 3) := by decide +kernel
theorem dX2_releaseIfEnough_36 : decode cX2_releaseIfEnough 36 = .ok (.invokevirtual 180, 3) := by decide +kernel
theorem dX2_releaseIfEnough_39 : decode cX2_releaseIfEnough 39 = .ok (.return_, 1) := by decide +kernel
set_option maxRecDepth 20000 in
theorem ggX2_letTimePass_X2_isOn : GoodIn wsX2_letTimePass wsX2_isOn := goodIn_r _ [7, 2, 15, 16, 17, 18, 19, 20, 21, 22, 23, 24, 25, 26, 27, 28, 29] (by decide +kernel) (by decide +kernel)
set_option maxRecDepth 20000 in
theorem gX2_letTimePass_X2_isOn : GoodIn wsX2_letTimePass (wsV RX2 186 RX2 yX2_isOn wsX2_isOn) := goodIn_app (goodIn_of _ (by decide +kernel)) ggX2_letTimePass_X2_isOn
set_option maxRecDepth 20000 in
theorem ggX2_letTimePass_X4_releaseAll : GoodIn wsX2_letTimePass wsX4_releaseAll := goodIn_r _ [12, 13, 14, 30, 31, 32, 33, 34, 35] (by decide +kernel) (by decide +kernel)
set_option maxRecDepth 20000 in
theorem gX2_letTimePass_X4_releaseAll : GoodIn wsX2_letTimePass (wsV RX2 180 RX4 yX4_releaseAll wsX4_releaseAll) := goodIn_app (goodIn_of _ (by decide +kernel)) ggX2_letTimePass_X4_releaseAll
theorem dX2_letTimePass_0 : decode cX2_letTimePass 0 = .ok (.aload_n 0, 1) := by decide +kernel
theorem dX2_letTimePass_1 : decode cX2_letTimePass 1 = .ok (.getfield 35, 3) := by decide +kernel
theorem dX2_letTimePass_4 : decode cX2_letTimePass 4 = .ok (.dup, 1) := by decide +kernel
theorem dX2_letTimePass_5 : decode cX2_letTimePass 5 = .ok (.getfield 195, 3) := by decide +kernel
theorem dX2_letTimePass_8 : decode cX2_letTimePass 8 = .ok (.iconst 1, 1) := by decide +kernel
theorem dX2_letTimePass_9 : decode cX2_letTimePass 9 = .ok (.iadd, 1) := by decide +kernel
theorem dX2_letTimePass_10 : decode cX2_letTimePass 10 = .ok (.putfield 195, 3) := by decide +kernel
theorem dX2_letTimePass_13 : decode cX2_letTimePass 13 = .ok (.aload_n 0, 1) := by decide +kernel
theorem dX2_letTimePass_14 : decode cX2_letTimePass 14 = .ok (.iconst 0, 1) := by decide +kernel
theorem dX2_letTimePass_15 : decode cX2_letTimePass 15 = .ok (.invokevirtual 186, 3) := by decide +kernel
theorem dX2_letTimePass_18 : decode cX2_letTimePass 18 = .ok (.ifCond .ne 37, 3) := by decide +kernel
theorem dX2_letTimePass_21 : decode cX2_letTimePass 21 = .ok (.aload_n 0, 1) := by decide +kernel
theorem dX2_letTimePass_22 : decode cX2_letTimePass 22 = .ok (.getfield 18, 3) := by decide +kernel
theorem dX2_letTimePass_25 : decode cX2_letTimePass 25 = .ok (.bipush 13, 2) := by decide +kernel
theorem dX2_letTimePass_27 : decode cX2_letTimePass 27 = .ok (.iaload, 1) := by decide +kernel
theorem dX2_letTimePass_28 : decode cX2_letTimePass 28 = .ok (.ifCond .le 27, 3) := by decide +kernel
theorem dX2_letTimePass_31 : decode cX2_letTimePass 31 = .ok (.aload_n 0, 1) := by decide +kernel
theorem dX2_letTimePass_32 : decode cX2_letTimePass 32 = .ok (.getfield 35, 3) := by decide +kernel
theorem dX2_letTimePass_35 : decode cX2_letTimePass 35 = .ok (.getfield 195, 3) := by decide +kernel
theorem dX2_letTimePass_38 : decode cX2_letTimePass 38 = .ok (.aload_n 0, 1) := by decide +kernel
theorem dX2_letTimePass_39 : decode cX2_letTimePass 39 = .ok (.getfield 18, 3) := by decide +kernel
theorem dX2_letTimePass_42 : decode cX2_letTimePass 42 = .ok (.bipush 13, 2) := by decide +kernel
theorem dX2_letTimePass_44 : decode cX2_letTimePass 44 = .ok (.iaload, 1) := by decide +kernel
theorem dX2_letTimePass_45 : decode cX2_letTimePass 45 = .ok (.if_icmp .lt 10, 3) := by decide +kernel
theorem dX2_letTimePass_48 : decode cX2_letTimePass 48 = .ok (.aload_n 0, 1) := by decide +kernel
theorem dX2_letTimePass_49 : decode cX2_letTimePass 49 = .ok (.getfield 35, 3) := by decide +kernel
theorem dX2_letTimePass_52 : decode cX2_letTimePass 52 = .ok (.invokevirtual 180, 3) := by decide +kernel
theorem dX2_letTimePass_55 : decode cX2_letTimePass 55 = .ok (.return_, 1) := by decide +kernel
set_option maxRecDepth 20000 in
theorem ggX2_expand_X2_isOn : GoodIn wsX2_expand wsX2_isOn := goodIn_r _ [7, 8, 31, 32, 33, 34, 35, 36, 37, 38, 39, 40, 41, 42, 43, 44, 45] (by decide +kernel) (by decide +kernel)
set_option maxRecDepth 20000 in
theorem gX2_expand_X2_isOn : GoodIn wsX2_expand (wsV RX2 186 RX2 yX2_isOn wsX2_isOn) := goodIn_app (goodIn_of _ (by decide +kernel)) ggX2_expand_X2_isOn
set_option maxRecDepth 20000 in
theorem ggX2_expand_X2_draftNewline : GoodIn wsX2_expand wsX2_draftNewline := goodIn_r _ [12, 2, 13, 14, 15, 16, 17, 18, 19, 20, 21, 22, 23, 24, 31, 32, 33, 34, 35, 36, 37, 38, 39, 40, 41, 42, 43, 44, 45, 46, 47, 48] (by decide +kernel) (by decide +kernel)
set_option maxRecDepth 20000 in
theorem gX2_expand_X2_draftNewline : GoodIn wsX2_expand (wsV RX2 198 RX2 yX2_draftNewline wsX2_draftNewline) := goodIn_app (goodIn_of _ (by decide +kernel)) ggX2_expand_X2_draftNewline
set_option maxRecDepth 20000 in
theorem ggX2_expand_X1_blanksOfTab : GoodIn wsX2_expand wsX1_blanksOfTab := goodIn_r _ [29, 30, 49, 50, 51, 52, 53] (by decide +kernel) (by decide +kernel)
set_option maxRecDepth 20000 in
theorem gX2_expand_X1_blanksOfTab : GoodIn wsX2_expand (wsV RX2 201 RX1 yX1_blanksOfTab wsX1_blanksOfTab) := goodIn_app (goodIn_of _ (by decide +kernel)) ggX2_expand_X1_blanksOfTab
set_option maxRecDepth 20000 in
theorem ggX2_expand_X3_empty : GoodIn wsX2_expand wsX3_empty := goodIn_r _ [17, 18, 46, 47, 48] (by decide +kernel) (by decide +kernel)
set_option maxRecDepth 20000 in
theorem gX2_expand_X3_empty : GoodIn wsX2_expand (wsV RX2 134 RX3 yX3_empty wsX3_empty) := goodIn_app (goodIn_of _ (by decide +kernel)) ggX2_expand_X3_empty
set_option maxRecDepth 20000 in
theorem ggX2_expand_X3_add : GoodIn wsX2_expand wsX3_add := goodIn_r _ [22, 18, 23, 24, 46, 47, 48] (by decide +kernel) (by decide +kernel)
set_option maxRecDepth 20000 in
theorem gX2_expand_X3_add : GoodIn wsX2_expand (wsV RX2 82 RX3 yX3_add wsX3_add) := goodIn_app (goodIn_of _ (by decide +kernel)) ggX2_expand_X3_add
theorem dX2_expand_0 : decode cX2_expand 0 = .ok (.iload_n 1, 1) := by decide +kernel
theorem dX2_expand_1 : decode cX2_expand 1 = .ok (.bipush 10, 2) := by decide +kernel
theorem dX2_expand_3 : decode cX2_expand 3 = .ok (.if_icmp .ne 17, 3) := by decide +kernel
theorem dX2_expand_6 : decode cX2_expand 6 = .ok (.aload_n 0, 1) := by decide +kernel
theorem dX2_expand_7 : decode cX2_expand 7 = .ok (.bipush 7, 2) := by decide +kernel
theorem dX2_expand_9 : decode cX2_expand 9 = .ok (.invokevirtual 186, 3) := by decide +kernel
theorem dX2_expand_12 : decode cX2_expand 12 = .ok (.ifCond .eq 8, 3) := by decide +kernel
theorem dX2_expand_15 : decode cX2_expand 15 = .ok (.aload_n 0, 1) := by decide +kernel
theorem dX2_expand_16 : decode cX2_expand 16 = .ok (.invokevirtual 198, 3) := by decide +kernel
theorem dX2_expand_19 : decode cX2_expand 19 = .ok (.return_, 1) := by decide +kernel
theorem dX2_expand_20 : decode cX2_expand 20 = .ok (.iload_n 1, 1) := by decide +kernel
theorem dX2_expand_21 : decode cX2_expand 21 = .ok (.bipush 9, 2) := by decide +kernel
theorem dX2_expand_23 : decode cX2_expand 23 = .ok (.if_icmp .ne 16, 3) := by decide +kernel
theorem dX2_expand_26 : decode cX2_expand 26 = .ok (.aload_n 0, 1) := by decide +kernel
theorem dX2_expand_27 : decode cX2_expand 27 = .ok (.bipush 8, 2) := by decide +kernel
theorem dX2_expand_29 : decode cX2_expand 29 = .ok (.invokevirtual 186, 3) := by decide +kernel
theorem dX2_expand_32 : decode cX2_expand 32 = .ok (.ifCond .eq 7, 3) := by decide +kernel
theorem dX2_expand_35 : decode cX2_expand 35 = .ok (.iconst 1, 1) := by decide +kernel
theorem dX2_expand_36 : decode cX2_expand 36 = .ok (.goto 4, 3) := by decide +kernel
theorem dX2_expand_39 : decode cX2_expand 39 = .ok (.iconst 0, 1) := by decide +kernel
theorem dX2_expand_40 : decode cX2_expand 40 = .ok (.istore_n 2, 1) := by decide +kernel
theorem dX2_expand_41 : decode cX2_expand 41 = .ok (.iload_n 2, 1) := by decide +kernel
theorem dX2_expand_42 : decode cX2_expand 42 = .ok (.ifCond .eq 13, 3) := by decide +kernel
theorem dX2_expand_45 : decode cX2_expand 45 = .ok (.aload_n 0, 1) := by decide +kernel
theorem dX2_expand_46 : decode cX2_expand 46 = .ok (.getfield 42, 3) := by decide +kernel
theorem dX2_expand_49 : decode cX2_expand 49 = .ok (.invokevirtual 201, 3) := by decide +kernel
theorem dX2_expand_52 : decode cX2_expand 52 = .ok (.goto 4, 3) := by decide +kernel
theorem dX2_expand_55 : decode cX2_expand 55 = .ok (.iconst 1, 1) := by decide +kernel
theorem dX2_expand_56 : decode cX2_expand 56 = .ok (.istore_n 3, 1) := by decide +kernel
theorem dX2_expand_57 : decode cX2_expand 57 = .ok (.aload_n 0, 1) := by decide +kernel
theorem dX2_expand_58 : decode cX2_expand 58 = .ok (.getfield 53, 3) := by decide +kernel
theorem dX2_expand_61 : decode cX2_expand 61 = .ok (.invokevirtual 134, 3) := by decide +kernel
theorem dX2_expand_64 : decode cX2_expand 64 = .ok (.iconst 0, 1) := by decide +kernel
theorem dX2_expand_65 : decode cX2_expand 65 = .ok (.istore 4, 2) := by decide +kernel
theorem dX2_expand_67 : decode cX2_expand 67 = .ok (.iload 4, 2) := by decide +kernel
theorem dX2_expand_69 : decode cX2_expand 69 = .ok (.iload_n 3, 1) := by decide +kernel
theorem dX2_expand_70 : decode cX2_expand 70 = .ok (.if_icmp .ge 26, 3) := by decide +kernel
theorem dX2_expand_73 : decode cX2_expand 73 = .ok (.aload_n 0, 1) := by decide +kernel
theorem dX2_expand_74 : decode cX2_expand 74 = .ok (.getfield 53, 3) := by decide +kernel
theorem dX2_expand_77 : decode cX2_expand 77 = .ok (.iload_n 2, 1) := by decide +kernel
theorem dX2_expand_78 : decode cX2_expand 78 = .ok (.ifCond .eq 8, 3) := by decide +kernel
theorem dX2_expand_81 : decode cX2_expand 81 = .ok (.bipush 32, 2) := by decide +kernel
theorem dX2_expand_83 : decode cX2_expand 83 = .ok (.goto 4, 3) := by decide +kernel
theorem dX2_expand_86 : decode cX2_expand 86 = .ok (.iload_n 1, 1) := by decide +kernel
theorem dX2_expand_87 : decode cX2_expand 87 = .ok (.invokevirtual 82, 3) := by decide +kernel
theorem dX2_expand_90 : decode cX2_expand 90 = .ok (.iinc 4 1, 3) := by decide +kernel
theorem dX2_expand_93 : decode cX2_expand 93 = .ok (.goto (-26), 3) := by decide +kernel
theorem dX2_expand_96 : decode cX2_expand 96 = .ok (.return_, 1) := by decide +kernel
set_option maxRecDepth 20000 in
theorem ggX2_pass_X3_takeFirst : GoodIn wsX2_pass wsX3_takeFirst := goodIn_r _ [7, 8, 9, 10, 200, 201, 202] (by decide +kernel) (by decide +kernel)
set_option maxRecDepth 20000 in
theorem gX2_pass_X3_takeFirst : GoodIn wsX2_pass (wsV RX2 204 RX3 yX3_takeFirst wsX3_takeFirst) := goodIn_app (goodIn_of _ (by decide +kernel)) ggX2_pass_X3_takeFirst
set_option maxRecDepth 20000 in
theorem ggX2_pass_X2_takeFlagged : GoodIn wsX2_pass wsX2_takeFlagged := goodIn_r _ [15, 16, 2, 17, 18, 19, 20, 14, 21, 22, 23, 24, 25, 26, 27, 28, 29, 30, 31, 32, 33, 34, 35, 36, 37, 38, 39, 40, 41, 42, 43, 44, 45, 46, 47, 48, 49, 50, 51, 6, 52, 8, 53, 54, 55, 56, 57, 58, 59, 60, 61, 62, 63, 64, 65, 66, 67, 68, 69, 70, 71, 72, 73, 74, 75, 76, 77, 78, 79, 80, 81, 82, 83, 84, 85, 86, 9, 10, 87, 88, 89, 90, 91, 92, 93, 94, 95, 96, 97, 98, 99, 100, 101, 102, 103, 104, 105, 106, 107, 108, 109, 110, 111, 112, 113, 114, 115, 116, 117, 118, 119, 120, 121, 122, 123, 124, 125, 126, 127, 128, 129, 130, 131, 132, 133, 134, 135, 136, 185, 186, 187, 188, 189, 190, 191, 192, 193, 194, 195, 196, 197, 198, 199, 203, 204, 205, 206, 207, 200, 201, 202, 208, 209, 210, 211, 212, 213, 214, 215, 216, 217] (by decide +kernel) (by decide +kernel)
set_option maxRecDepth 20000 in
theorem gX2_pass_X2_takeFlagged : GoodIn wsX2_pass (wsV RX2 207 RX2 yX2_takeFlagged wsX2_takeFlagged) := goodIn_app (goodIn_of _ (by decide +kernel)) ggX2_pass_X2_takeFlagged
set_option maxRecDepth 20000 in
theorem ggX2_pass_X2_keepAndEcho : GoodIn wsX2_pass wsX2_keepAndEcho := goodIn_r _ [114, 115, 116, 117, 14, 118, 41, 17, 57, 58, 18, 19, 20, 21, 16, 119, 120, 121, 45, 122, 47, 123, 124, 99, 100, 6, 101, 9, 8, 125, 84, 85, 86, 10, 126, 127, 128, 129, 130, 131, 69, 132, 133, 134, 135, 136, 48, 71, 72, 73, 74, 75, 59, 50, 51, 52, 76, 77, 78, 79, 80, 81, 82, 83, 87, 88, 89, 90, 28, 91, 92, 93, 94, 95, 96, 97, 98, 102, 103, 104, 105, 106, 107, 108, 109, 110, 185, 186, 187, 188, 189, 190, 191, 192, 193, 194, 195, 196, 197, 198, 199, 210, 211, 212, 200, 201, 202, 203, 204, 205, 206, 207] (by decide +kernel) (by decide +kernel)
set_option maxRecDepth 20000 in
theorem gX2_pass_X2_keepAndEcho : GoodIn wsX2_pass (wsV RX2 214 RX2 yX2_keepAndEcho wsX2_keepAndEcho) := goodIn_app (goodIn_of _ (by decide +kernel)) ggX2_pass_X2_keepAndEcho
set_option maxRecDepth 20000 in
theorem ggX2_pass_X2_settledAsFlow : GoodIn wsX2_pass wsX2_settledAsFlow := goodIn_r _ [140, 16, 28, 18, 19, 20, 14, 21, 185, 186, 187, 188, 189, 190, 191, 192, 193, 194, 195, 196, 197, 198, 199, 203, 204, 205, 206, 207] (by decide +kernel) (by decide +kernel)
set_option maxRecDepth 20000 in
theorem gX2_pass_X2_settledAsFlow : GoodIn wsX2_pass (wsV RX2 217 RX2 yX2_settledAsFlow wsX2_settledAsFlow) := goodIn_app (goodIn_of _ (by decide +kernel)) ggX2_pass_X2_settledAsFlow
set_option maxRecDepth 20000 in
theorem ggX2_pass_X2_settledAsSignal : GoodIn wsX2_pass wsX2_settledAsSignal := goodIn_r _ [144, 16, 18, 19, 20, 14, 21, 22, 23, 24, 25, 26, 27, 28, 29, 30, 31, 32, 33, 34, 35, 36, 37, 38, 39, 40, 41, 42, 43, 44, 45, 46, 47, 48, 49, 50, 51, 6, 52, 8, 53, 54, 55, 56, 57, 58, 59, 60, 61, 62, 63, 64, 65, 66, 67, 68, 69, 70, 71, 72, 73, 74, 75, 76, 77, 78, 79, 80, 81, 82, 83, 84, 85, 86, 9, 10, 87, 88, 89, 90, 17, 91, 92, 93, 94, 95, 96, 97, 98, 99, 100, 101, 102, 103, 104, 105, 106, 107, 108, 109, 110, 185, 186, 187, 188, 189, 190, 191, 192, 193, 194, 195, 196, 197, 198, 199, 203, 204, 205, 206, 207, 200, 201, 202, 208, 209, 210, 211, 212, 213, 214, 215, 216, 217] (by decide +kernel) (by decide +kernel)
set_option maxRecDepth 20000 in
theorem gX2_pass_X2_settledAsSignal : GoodIn wsX2_pass (wsV RX2 220 RX2 yX2_settledAsSignal wsX2_settledAsSignal) := goodIn_app (goodIn_of _ (by decide +kernel)) ggX2_pass_X2_settledAsSignal
set_option maxRecDepth 20000 in
theorem ggX2_pass_X2_isOn : GoodIn wsX2_pass wsX2_isOn := goodIn_r _ [21, 16, 185, 186, 187, 188, 189, 190, 191, 192, 193, 194, 195, 196, 197, 198, 199] (by decide +kernel) (by decide +kernel)
set_option maxRecDepth 20000 in
theorem gX2_pass_X2_isOn : GoodIn wsX2_pass (wsV RX2 186 RX2 yX2_isOn wsX2_isOn) := goodIn_app (goodIn_of _ (by decide +kernel)) ggX2_pass_X2_isOn
set_option maxRecDepth 20000 in
theorem ggX2_pass_X2_edit : GoodIn wsX2_pass wsX2_edit := goodIn_r _ [148, 16, 41, 149, 68, 69, 70, 2, 18, 19, 20, 14, 21, 111, 112, 113, 114, 115, 116, 117, 118, 17, 57, 58, 119, 120, 121, 45, 122, 47, 123, 124, 99, 100, 6, 101, 9, 8, 125, 84, 85, 86, 10, 126, 127, 128, 129, 130, 131, 132, 133, 134, 135, 136, 48, 71, 72, 73, 74, 75, 59, 50, 51, 52, 76, 77, 78, 79, 80, 81, 82, 83, 87, 88, 89, 90, 28, 91, 92, 93, 94, 95, 96, 97, 98, 102, 103, 104, 105, 106, 107, 108, 109, 110, 150, 151, 152, 153, 154, 155, 156, 157, 158, 159, 160, 161, 162, 53, 54, 55, 56, 163, 164, 165, 166, 167, 168, 169, 170, 171, 172, 173, 174, 175, 176, 177, 178, 179, 180, 181, 182, 183, 184, 185, 186, 187, 188, 189, 190, 191, 192, 193, 194, 195, 196, 197, 198, 199, 210, 211, 212, 200, 201, 202, 203, 204, 205, 206, 207] (by decide +kernel) (by decide +kernel)
set_option maxRecDepth 20000 in
theorem gX2_pass_X2_edit : GoodIn wsX2_pass (wsV RX2 223 RX2 yX2_edit wsX2_edit) := goodIn_app (goodIn_of _ (by decide +kernel)) ggX2_pass_X2_edit
theorem dX2_pass_0 : decode cX2_pass 0 = .ok (.iconst 0, 1) := by decide +kernel
theorem dX2_pass_1 : decode cX2_pass 1 = .ok (.istore_n 1, 1) := by decide +kernel
theorem dX2_pass_2 : decode cX2_pass 2 = .ok (.iload_n 1, 1) := by decide +kernel
theorem dX2_pass_3 : decode cX2_pass 3 = .ok (.bipush 8, 2) := by decide +kernel
theorem dX2_pass_5 : decode cX2_pass 5 = .ok (.if_icmp .ge 123, 3) := by decide +kernel
theorem dX2_pass_8 : decode cX2_pass 8 = .ok (.aload_n 0, 1) := by decide +kernel
theorem dX2_pass_9 : decode cX2_pass 9 = .ok (.getfield 28, 3) := by decide +kernel
theorem dX2_pass_12 : decode cX2_pass 12 = .ok (.getfield 147, 3) := by decide +kernel
theorem dX2_pass_15 : decode cX2_pass 15 = .ok (.ifCond .le 113, 3) := by decide +kernel
theorem dX2_pass_18 : decode cX2_pass 18 = .ok (.aload_n 0, 1) := by decide +kernel
theorem dX2_pass_19 : decode cX2_pass 19 = .ok (.getfield 28, 3) := by decide +kernel
theorem dX2_pass_22 : decode cX2_pass 22 = .ok (.invokevirtual 204, 3) := by decide +kernel
theorem dX2_pass_25 : decode cX2_pass 25 = .ok (.istore_n 2, 1) := by decide +kernel
theorem dX2_pass_26 : decode cX2_pass 26 = .ok (.iload_n 2, 1) := by decide +kernel
theorem dX2_pass_27 : decode cX2_pass 27 = .ok (.sipush 255, 3) := by decide +kernel
theorem dX2_pass_30 : decode cX2_pass 30 = .ok (.iand, 1) := by decide +kernel
theorem dX2_pass_31 : decode cX2_pass 31 = .ok (.istore_n 3, 1) := by decide +kernel
theorem dX2_pass_32 : decode cX2_pass 32 = .ok (.iload_n 2, 1) := by decide +kernel
theorem dX2_pass_33 : decode cX2_pass 33 = .ok (.bipush 8, 2) := by decide +kernel
theorem dX2_pass_35 : decode cX2_pass 35 = .ok (.ishr, 1) := by decide +kernel
theorem dX2_pass_36 : decode cX2_pass 36 = .ok (.istore 4, 2) := by decide +kernel
theorem dX2_pass_38 : decode cX2_pass 38 = .ok (.iload 4, 2) := by decide +kernel
theorem dX2_pass_40 : decode cX2_pass 40 = .ok (.ifCond .eq 22, 3) := by decide +kernel
theorem dX2_pass_43 : decode cX2_pass 43 = .ok (.aload_n 0, 1) := by decide +kernel
theorem dX2_pass_44 : decode cX2_pass 44 = .ok (.iload 4, 2) := by decide +kernel
theorem dX2_pass_46 : decode cX2_pass 46 = .ok (.iconst 2, 1) := by decide +kernel
theorem dX2_pass_47 : decode cX2_pass 47 = .ok (.iand, 1) := by decide +kernel
theorem dX2_pass_48 : decode cX2_pass 48 = .ok (.ifCond .eq 7, 3) := by decide +kernel
theorem dX2_pass_51 : decode cX2_pass 51 = .ok (.iconst 1, 1) := by decide +kernel
theorem dX2_pass_52 : decode cX2_pass 52 = .ok (.goto 4, 3) := by decide +kernel
theorem dX2_pass_55 : decode cX2_pass 55 = .ok (.iconst 0, 1) := by decide +kernel
theorem dX2_pass_56 : decode cX2_pass 56 = .ok (.invokevirtual 207, 3) := by decide +kernel
theorem dX2_pass_59 : decode cX2_pass 59 = .ok (.goto 63, 3) := by decide +kernel
theorem dX2_pass_62 : decode cX2_pass 62 = .ok (.aload_n 0, 1) := by decide +kernel
theorem dX2_pass_63 : decode cX2_pass 63 = .ok (.getfield 211, 3) := by decide +kernel
theorem dX2_pass_66 : decode cX2_pass 66 = .ok (.ifCond .eq 16, 3) := by decide +kernel
theorem dX2_pass_69 : decode cX2_pass 69 = .ok (.aload_n 0, 1) := by decide +kernel
theorem dX2_pass_70 : decode cX2_pass 70 = .ok (.iconst 0, 1) := by decide +kernel
theorem dX2_pass_71 : decode cX2_pass 71 = .ok (.putfield 211, 3) := by decide +kernel
theorem dX2_pass_74 : decode cX2_pass 74 = .ok (.aload_n 0, 1) := by decide +kernel
theorem dX2_pass_75 : decode cX2_pass 75 = .ok (.iload_n 3, 1) := by decide +kernel
theorem dX2_pass_76 : decode cX2_pass 76 = .ok (.invokevirtual 214, 3) := by decide +kernel
theorem dX2_pass_79 : decode cX2_pass 79 = .ok (.goto 43, 3) := by decide +kernel
theorem dX2_pass_82 : decode cX2_pass 82 = .ok (.aload_n 0, 1) := by decide +kernel
theorem dX2_pass_83 : decode cX2_pass 83 = .ok (.iload_n 3, 1) := by decide +kernel
theorem dX2_pass_84 : decode cX2_pass 84 = .ok (.invokevirtual 217, 3) := by decide +kernel
theorem dX2_pass_87 : decode cX2_pass 87 = .ok (.ifCond .ne 35, 3) := by decide +kernel
theorem dX2_pass_90 : decode cX2_pass 90 = .ok (.aload_n 0, 1) := by decide +kernel
theorem dX2_pass_91 : decode cX2_pass 91 = .ok (.iload_n 3, 1) := by decide +kernel
theorem dX2_pass_92 : decode cX2_pass 92 = .ok (.invokevirtual 220, 3) := by decide +kernel
theorem dX2_pass_95 : decode cX2_pass 95 = .ok (.ifCond .ne 27, 3) := by decide +kernel
theorem dX2_pass_98 : decode cX2_pass 98 = .ok (.aload_n 0, 1) := by decide +kernel
theorem dX2_pass_99 : decode cX2_pass 99 = .ok (.iload_n 3, 1) := by decide +kernel
theorem dX2_pass_100 : decode cX2_pass 100 = .ok (.bipush 13, 2) := by decide +kernel
theorem dX2_pass_102 : decode cX2_pass 102 = .ok (.if_icmp .ne 16, 3) := by decide +kernel
theorem dX2_pass_105 : decode cX2_pass 105 = .ok (.aload_n 0, 1) := by decide +kernel
theorem dX2_pass_106 : decode cX2_pass 106 = .ok (.iconst 3, 1) := by decide +kernel
theorem dX2_pass_107 : decode cX2_pass 107 = .ok (.invokevirtual 186, 3) := by decide +kernel
theorem dX2_pass_110 : decode cX2_pass 110 = .ok (.ifCond .eq 8, 3) := by decide +kernel
theorem dX2_pass_113 : decode cX2_pass 113 = .ok (.bipush 10, 2) := by decide +kernel
theorem dX2_pass_115 : decode cX2_pass 115 = .ok (.goto 4, 3) := by decide +kernel
theorem dX2_pass_118 : decode cX2_pass 118 = .ok (.iload_n 3, 1) := by decide +kernel
theorem dX2_pass_119 : decode cX2_pass 119 = .ok (.invokevirtual 223, 3) := by decide +kernel
theorem dX2_pass_122 : decode cX2_pass 122 = .ok (.iinc 1 1, 3) := by decide +kernel
theorem dX2_pass_125 : decode cX2_pass 125 = .ok (.goto (-123), 3) := by decide +kernel
theorem dX2_pass_128 : decode cX2_pass 128 = .ok (.return_, 1) := by decide +kernel
set_option maxRecDepth 20000 in
theorem ggX2_takeFlagged_X2_isOn : GoodIn wsX2_takeFlagged wsX2_isOn := goodIn_r _ [8, 1, 128, 129, 130, 131, 132, 133, 134, 135, 136, 137, 138, 139, 140, 141, 142] (by decide +kernel) (by decide +kernel)
set_option maxRecDepth 20000 in
theorem gX2_takeFlagged_X2_isOn : GoodIn wsX2_takeFlagged (wsV RX2 186 RX2 yX2_isOn wsX2_isOn) := goodIn_app (goodIn_of _ (by decide +kernel)) ggX2_takeFlagged_X2_isOn
set_option maxRecDepth 20000 in
theorem ggX2_takeFlagged_X2_signal : GoodIn wsX2_takeFlagged wsX2_signal := goodIn_r _ [12, 13, 14, 15, 16, 17, 18, 19, 20, 21, 22, 23, 4, 5, 6, 7, 8, 1, 24, 25, 26, 27, 28, 29, 30, 31, 32, 33, 34, 35, 36, 37, 38, 39, 40, 41, 42, 43, 44, 45, 46, 47, 48, 49, 50, 51, 52, 53, 54, 55, 56, 57, 58, 59, 60, 61, 62, 63, 64, 65, 66, 67, 68, 69, 70, 71, 72, 73, 74, 75, 76, 77, 78, 79, 80, 81, 3, 82, 83, 84, 85, 86, 87, 88, 89, 90, 91, 92, 93, 94, 95, 96, 97, 98, 99, 100, 101, 128, 129, 130, 131, 132, 133, 134, 135, 136, 137, 138, 139, 140, 141, 142, 143, 144, 145, 146, 147, 148, 149, 150, 151, 152, 153, 154, 155, 156, 157, 158, 159, 160] (by decide +kernel) (by decide +kernel)
set_option maxRecDepth 20000 in
theorem gX2_takeFlagged_X2_signal : GoodIn wsX2_takeFlagged (wsV RX2 226 RX2 yX2_signal wsX2_signal) := goodIn_app (goodIn_of _ (by decide +kernel)) ggX2_takeFlagged_X2_signal
set_option maxRecDepth 20000 in
theorem ggX2_takeFlagged_X2_keepAndEcho : GoodIn wsX2_takeFlagged wsX2_keepAndEcho := goodIn_r _ [105, 106, 107, 108, 7, 109, 28, 3, 46, 47, 4, 5, 6, 8, 1, 110, 111, 112, 32, 113, 34, 114, 115, 90, 91, 39, 92, 76, 41, 116, 73, 74, 75, 77, 117, 118, 119, 120, 121, 122, 58, 123, 124, 125, 126, 127, 35, 60, 61, 62, 63, 64, 48, 37, 38, 40, 65, 66, 67, 68, 69, 70, 71, 72, 78, 79, 80, 81, 15, 82, 83, 84, 85, 86, 87, 88, 89, 93, 94, 95, 96, 97, 98, 99, 100, 101, 128, 129, 130, 131, 132, 133, 134, 135, 136, 137, 138, 139, 140, 141, 142, 153, 154, 155, 148, 149, 150, 143, 144, 145, 146, 147] (by decide +kernel) (by decide +kernel)
set_option maxRecDepth 20000 in
theorem gX2_takeFlagged_X2_keepAndEcho : GoodIn wsX2_takeFlagged (wsV RX2 214 RX2 yX2_keepAndEcho wsX2_keepAndEcho) := goodIn_app (goodIn_of _ (by decide +kernel)) ggX2_takeFlagged_X2_keepAndEcho
theorem dX2_takeFlagged_0 : decode cX2_takeFlagged 0 = .ok (.iload_n 1, 1) := by decide +kernel
theorem dX2_takeFlagged_1 : decode cX2_takeFlagged 1 = .ok (.ifCond .eq 26, 3) := by decide +kernel
theorem dX2_takeFlagged_4 : decode cX2_takeFlagged 4 = .ok (.aload_n 0, 1) := by decide +kernel
theorem dX2_takeFlagged_5 : decode cX2_takeFlagged 5 = .ok (.iconst 2, 1) := by decide +kernel
theorem dX2_takeFlagged_6 : decode cX2_takeFlagged 6 = .ok (.invokevirtual 186, 3) := by decide +kernel
theorem dX2_takeFlagged_9 : decode cX2_takeFlagged 9 = .ok (.ifCond .eq 18, 3) := by decide +kernel
theorem dX2_takeFlagged_12 : decode cX2_takeFlagged 12 = .ok (.aload_n 0, 1) := by decide +kernel
theorem dX2_takeFlagged_13 : decode cX2_takeFlagged 13 = .ok (.iconst 1, 1) := by decide +kernel
theorem dX2_takeFlagged_14 : decode cX2_takeFlagged 14 = .ok (.aload_n 0, 1) := by decide +kernel
theorem dX2_takeFlagged_15 : decode cX2_takeFlagged 15 = .ok (.getfield 18, 3) := by decide +kernel
theorem dX2_takeFlagged_18 : decode cX2_takeFlagged 18 = .ok (.bipush 20, 2) := by decide +kernel
theorem dX2_takeFlagged_20 : decode cX2_takeFlagged 20 = .ok (.iaload, 1) := by decide +kernel
theorem dX2_takeFlagged_21 : decode cX2_takeFlagged 21 = .ok (.invokevirtual 226, 3) := by decide +kernel
theorem dX2_takeFlagged_24 : decode cX2_takeFlagged 24 = .ok (.goto 39, 3) := by decide +kernel
theorem dX2_takeFlagged_27 : decode cX2_takeFlagged 27 = .ok (.iload_n 1, 1) := by decide +kernel
theorem dX2_takeFlagged_28 : decode cX2_takeFlagged 28 = .ok (.ifCond .ne 12, 3) := by decide +kernel
theorem dX2_takeFlagged_31 : decode cX2_takeFlagged 31 = .ok (.aload_n 0, 1) := by decide +kernel
theorem dX2_takeFlagged_32 : decode cX2_takeFlagged 32 = .ok (.bipush 11, 2) := by decide +kernel
theorem dX2_takeFlagged_34 : decode cX2_takeFlagged 34 = .ok (.invokevirtual 186, 3) := by decide +kernel
theorem dX2_takeFlagged_37 : decode cX2_takeFlagged 37 = .ok (.ifCond .eq 16, 3) := by decide +kernel
theorem dX2_takeFlagged_40 : decode cX2_takeFlagged 40 = .ok (.aload_n 0, 1) := by decide +kernel
theorem dX2_takeFlagged_41 : decode cX2_takeFlagged 41 = .ok (.iconst 0, 1) := by decide +kernel
theorem dX2_takeFlagged_42 : decode cX2_takeFlagged 42 = .ok (.putfield 211, 3) := by decide +kernel
theorem dX2_takeFlagged_45 : decode cX2_takeFlagged 45 = .ok (.aload_n 0, 1) := by decide +kernel
theorem dX2_takeFlagged_46 : decode cX2_takeFlagged 46 = .ok (.iconst 0, 1) := by decide +kernel
theorem dX2_takeFlagged_47 : decode cX2_takeFlagged 47 = .ok (.invokevirtual 214, 3) := by decide +kernel
theorem dX2_takeFlagged_50 : decode cX2_takeFlagged 50 = .ok (.goto 13, 3) := by decide +kernel
theorem dX2_takeFlagged_53 : decode cX2_takeFlagged 53 = .ok (.aload_n 0, 1) := by decide +kernel
theorem dX2_takeFlagged_54 : decode cX2_takeFlagged 54 = .ok (.getfield 60, 3) := by decide +kernel
theorem dX2_takeFlagged_57 : decode cX2_takeFlagged 57 = .ok (.iconst 2, 1) := by decide +kernel
theorem dX2_takeFlagged_58 : decode cX2_takeFlagged 58 = .ok (.dup2, 1) := by decide +kernel
theorem dX2_takeFlagged_59 : decode cX2_takeFlagged 59 = .ok (.iaload, 1) := by decide +kernel
theorem dX2_takeFlagged_60 : decode cX2_takeFlagged 60 = .ok (.iconst 1, 1) := by decide +kernel
theorem dX2_takeFlagged_61 : decode cX2_takeFlagged 61 = .ok (.iadd, 1) := by decide +kernel
theorem dX2_takeFlagged_62 : decode cX2_takeFlagged 62 = .ok (.iastore, 1) := by decide +kernel
theorem dX2_takeFlagged_63 : decode cX2_takeFlagged 63 = .ok (.return_, 1) := by decide +kernel
set_option maxRecDepth 20000 in
theorem ggX2_settledAsFlow_X2_isOn : GoodIn wsX2_settledAsFlow wsX2_isOn := goodIn_r _ [7, 1, 8, 9, 10, 11, 12, 13, 14, 15, 16, 17, 18, 19, 20, 21, 22] (by decide +kernel) (by decide +kernel)
set_option maxRecDepth 20000 in
theorem gX2_settledAsFlow_X2_isOn : GoodIn wsX2_settledAsFlow (wsV RX2 186 RX2 yX2_isOn wsX2_isOn) := goodIn_app (goodIn_of _ (by decide +kernel)) ggX2_settledAsFlow_X2_isOn
theorem dX2_settledAsFlow_0 : decode cX2_settledAsFlow 0 = .ok (.aload_n 0, 1) := by decide +kernel
theorem dX2_settledAsFlow_1 : decode cX2_settledAsFlow 1 = .ok (.iconst 4, 1) := by decide +kernel
theorem dX2_settledAsFlow_2 : decode cX2_settledAsFlow 2 = .ok (.invokevirtual 186, 3) := by decide +kernel
theorem dX2_settledAsFlow_5 : decode cX2_settledAsFlow 5 = .ok (.ifCond .ne 5, 3) := by decide +kernel
theorem dX2_settledAsFlow_8 : decode cX2_settledAsFlow 8 = .ok (.iconst 0, 1) := by decide +kernel
theorem dX2_settledAsFlow_9 : decode cX2_settledAsFlow 9 = .ok (.ireturn, 1) := by decide +kernel
theorem dX2_settledAsFlow_10 : decode cX2_settledAsFlow 10 = .ok (.iload_n 1, 1) := by decide +kernel
theorem dX2_settledAsFlow_11 : decode cX2_settledAsFlow 11 = .ok (.aload_n 0, 1) := by decide +kernel
theorem dX2_settledAsFlow_12 : decode cX2_settledAsFlow 12 = .ok (.getfield 18, 3) := by decide +kernel
theorem dX2_settledAsFlow_15 : decode cX2_settledAsFlow 15 = .ok (.bipush 24, 2) := by decide +kernel
theorem dX2_settledAsFlow_17 : decode cX2_settledAsFlow 17 = .ok (.iaload, 1) := by decide +kernel
theorem dX2_settledAsFlow_18 : decode cX2_settledAsFlow 18 = .ok (.if_icmp .ne 13, 3) := by decide +kernel
theorem dX2_settledAsFlow_21 : decode cX2_settledAsFlow 21 = .ok (.aload_n 0, 1) := by decide +kernel
theorem dX2_settledAsFlow_22 : decode cX2_settledAsFlow 22 = .ok (.getfield 42, 3) := by decide +kernel
theorem dX2_settledAsFlow_25 : decode cX2_settledAsFlow 25 = .ok (.iconst 1, 1) := by decide +kernel
theorem dX2_settledAsFlow_26 : decode cX2_settledAsFlow 26 = .ok (.putfield 229, 3) := by decide +kernel
theorem dX2_settledAsFlow_29 : decode cX2_settledAsFlow 29 = .ok (.iconst 1, 1) := by decide +kernel
theorem dX2_settledAsFlow_30 : decode cX2_settledAsFlow 30 = .ok (.ireturn, 1) := by decide +kernel
theorem dX2_settledAsFlow_31 : decode cX2_settledAsFlow 31 = .ok (.iload_n 1, 1) := by decide +kernel
theorem dX2_settledAsFlow_32 : decode cX2_settledAsFlow 32 = .ok (.aload_n 0, 1) := by decide +kernel
theorem dX2_settledAsFlow_33 : decode cX2_settledAsFlow 33 = .ok (.getfield 18, 3) := by decide +kernel
theorem dX2_settledAsFlow_36 : decode cX2_settledAsFlow 36 = .ok (.bipush 23, 2) := by decide +kernel
theorem dX2_settledAsFlow_38 : decode cX2_settledAsFlow 38 = .ok (.iaload, 1) := by decide +kernel
theorem dX2_settledAsFlow_39 : decode cX2_settledAsFlow 39 = .ok (.if_icmp .ne 13, 3) := by decide +kernel
theorem dX2_settledAsFlow_42 : decode cX2_settledAsFlow 42 = .ok (.aload_n 0, 1) := by decide +kernel
theorem dX2_settledAsFlow_43 : decode cX2_settledAsFlow 43 = .ok (.getfield 42, 3) := by decide +kernel
theorem dX2_settledAsFlow_46 : decode cX2_settledAsFlow 46 = .ok (.iconst 0, 1) := by decide +kernel
theorem dX2_settledAsFlow_47 : decode cX2_settledAsFlow 47 = .ok (.putfield 229, 3) := by decide +kernel
theorem dX2_settledAsFlow_50 : decode cX2_settledAsFlow 50 = .ok (.iconst 1, 1) := by decide +kernel
theorem dX2_settledAsFlow_51 : decode cX2_settledAsFlow 51 = .ok (.ireturn, 1) := by decide +kernel
theorem dX2_settledAsFlow_52 : decode cX2_settledAsFlow 52 = .ok (.aload_n 0, 1) := by decide +kernel
theorem dX2_settledAsFlow_53 : decode cX2_settledAsFlow 53 = .ok (.iconst 5, 1) := by decide +kernel
theorem dX2_settledAsFlow_54 : decode cX2_settledAsFlow 54 = .ok (.invokevirtual 186, 3) := by decide +kernel
theorem dX2_settledAsFlow_57 : decode cX2_settledAsFlow 57 = .ok (.ifCond .eq 11, 3) := by decide +kernel
theorem dX2_settledAsFlow_60 : decode cX2_settledAsFlow 60 = .ok (.aload_n 0, 1) := by decide +kernel
theorem dX2_settledAsFlow_61 : decode cX2_settledAsFlow 61 = .ok (.getfield 42, 3) := by decide +kernel
theorem dX2_settledAsFlow_64 : decode cX2_settledAsFlow 64 = .ok (.iconst 0, 1) := by decide +kernel
theorem dX2_settledAsFlow_65 : decode cX2_settledAsFlow 65 = .ok (.putfield 229, 3) := by decide +kernel
theorem dX2_settledAsFlow_68 : decode cX2_settledAsFlow 68 = .ok (.iconst 0, 1) := by decide +kernel
theorem dX2_settledAsFlow_69 : decode cX2_settledAsFlow 69 = .ok (.ireturn, 1) := by decide +kernel
set_option maxRecDepth 20000 in
theorem ggX2_settledAsSignal_X2_isOn : GoodIn wsX2_settledAsSignal wsX2_isOn := goodIn_r _ [6, 1, 101, 102, 103, 104, 105, 106, 107, 108, 109, 110, 111, 112, 113, 114, 115] (by decide +kernel) (by decide +kernel)
set_option maxRecDepth 20000 in
theorem gX2_settledAsSignal_X2_isOn : GoodIn wsX2_settledAsSignal (wsV RX2 186 RX2 yX2_isOn wsX2_isOn) := goodIn_app (goodIn_of _ (by decide +kernel)) ggX2_settledAsSignal_X2_isOn
set_option maxRecDepth 20000 in
theorem ggX2_settledAsSignal_X2_signal : GoodIn wsX2_settledAsSignal wsX2_signal := goodIn_r _ [10, 11, 12, 13, 14, 15, 16, 17, 18, 19, 20, 21, 2, 3, 4, 5, 6, 1, 22, 23, 24, 25, 26, 27, 28, 29, 30, 31, 32, 33, 34, 35, 36, 37, 38, 39, 40, 41, 42, 43, 44, 45, 46, 47, 48, 49, 50, 51, 52, 53, 54, 55, 56, 57, 58, 59, 60, 61, 62, 63, 64, 65, 66, 67, 68, 69, 70, 71, 72, 73, 74, 75, 76, 77, 78, 79, 80, 81, 82, 83, 84, 85, 86, 87, 88, 89, 90, 91, 92, 93, 94, 95, 96, 97, 98, 99, 100, 101, 102, 103, 104, 105, 106, 107, 108, 109, 110, 111, 112, 113, 114, 115, 116, 117, 118, 119, 120, 121, 122, 123, 124, 125, 126, 127, 128, 129, 130, 131, 132, 133] (by decide +kernel) (by decide +kernel)
set_option maxRecDepth 20000 in
theorem gX2_settledAsSignal_X2_signal : GoodIn wsX2_settledAsSignal (wsV RX2 226 RX2 yX2_signal wsX2_signal) := goodIn_app (goodIn_of _ (by decide +kernel)) ggX2_settledAsSignal_X2_signal
theorem dX2_settledAsSignal_0 : decode cX2_settledAsSignal 0 = .ok (.aload_n 0, 1) := by decide +kernel
theorem dX2_settledAsSignal_1 : decode cX2_settledAsSignal 1 = .ok (.iconst 2, 1) := by decide +kernel
theorem dX2_settledAsSignal_2 : decode cX2_settledAsSignal 2 = .ok (.invokevirtual 186, 3) := by decide +kernel
theorem dX2_settledAsSignal_5 : decode cX2_settledAsSignal 5 = .ok (.ifCond .ne 5, 3) := by decide +kernel
theorem dX2_settledAsSignal_8 : decode cX2_settledAsSignal 8 = .ok (.iconst 0, 1) := by decide +kernel
theorem dX2_settledAsSignal_9 : decode cX2_settledAsSignal 9 = .ok (.ireturn, 1) := by decide +kernel
theorem dX2_settledAsSignal_10 : decode cX2_settledAsSignal 10 = .ok (.iload_n 1, 1) := by decide +kernel
theorem dX2_settledAsSignal_11 : decode cX2_settledAsSignal 11 = .ok (.aload_n 0, 1) := by decide +kernel
theorem dX2_settledAsSignal_12 : decode cX2_settledAsSignal 12 = .ok (.getfield 18, 3) := by decide +kernel
theorem dX2_settledAsSignal_15 : decode cX2_settledAsSignal 15 = .ok (.bipush 20, 2) := by decide +kernel
theorem dX2_settledAsSignal_17 : decode cX2_settledAsSignal 17 = .ok (.iaload, 1) := by decide +kernel
theorem dX2_settledAsSignal_18 : decode cX2_settledAsSignal 18 = .ok (.if_icmp .ne 12, 3) := by decide +kernel
theorem dX2_settledAsSignal_21 : decode cX2_settledAsSignal 21 = .ok (.aload_n 0, 1) := by decide +kernel
theorem dX2_settledAsSignal_22 : decode cX2_settledAsSignal 22 = .ok (.iconst 1, 1) := by decide +kernel
theorem dX2_settledAsSignal_23 : decode cX2_settledAsSignal 23 = .ok (.iload_n 1, 1) := by decide +kernel
theorem dX2_settledAsSignal_24 : decode cX2_settledAsSignal 24 = .ok (.invokevirtual 226, 3) := by decide +kernel
theorem dX2_settledAsSignal_27 : decode cX2_settledAsSignal 27 = .ok (.goto 45, 3) := by decide +kernel
theorem dX2_settledAsSignal_30 : decode cX2_settledAsSignal 30 = .ok (.iload_n 1, 1) := by decide +kernel
theorem dX2_settledAsSignal_31 : decode cX2_settledAsSignal 31 = .ok (.aload_n 0, 1) := by decide +kernel
theorem dX2_settledAsSignal_32 : decode cX2_settledAsSignal 32 = .ok (.getfield 18, 3) := by decide +kernel
theorem dX2_settledAsSignal_35 : decode cX2_settledAsSignal 35 = .ok (.bipush 21, 2) := by decide +kernel
theorem dX2_settledAsSignal_37 : decode cX2_settledAsSignal 37 = .ok (.iaload, 1) := by decide +kernel
theorem dX2_settledAsSignal_38 : decode cX2_settledAsSignal 38 = .ok (.if_icmp .ne 12, 3) := by decide +kernel
theorem dX2_settledAsSignal_41 : decode cX2_settledAsSignal 41 = .ok (.aload_n 0, 1) := by decide +kernel
theorem dX2_settledAsSignal_42 : decode cX2_settledAsSignal 42 = .ok (.iconst 2, 1) := by decide +kernel
theorem dX2_settledAsSignal_43 : decode cX2_settledAsSignal 43 = .ok (.iload_n 1, 1) := by decide +kernel
theorem dX2_settledAsSignal_44 : decode cX2_settledAsSignal 44 = .ok (.invokevirtual 226, 3) := by decide +kernel
theorem dX2_settledAsSignal_47 : decode cX2_settledAsSignal 47 = .ok (.goto 25, 3) := by decide +kernel
theorem dX2_settledAsSignal_50 : decode cX2_settledAsSignal 50 = .ok (.iload_n 1, 1) := by decide +kernel
theorem dX2_settledAsSignal_51 : decode cX2_settledAsSignal 51 = .ok (.aload_n 0, 1) := by decide +kernel
theorem dX2_settledAsSignal_52 : decode cX2_settledAsSignal 52 = .ok (.getfield 18, 3) := by decide +kernel
theorem dX2_settledAsSignal_55 : decode cX2_settledAsSignal 55 = .ok (.bipush 22, 2) := by decide +kernel
theorem dX2_settledAsSignal_57 : decode cX2_settledAsSignal 57 = .ok (.iaload, 1) := by decide +kernel
theorem dX2_settledAsSignal_58 : decode cX2_settledAsSignal 58 = .ok (.if_icmp .ne 12, 3) := by decide +kernel
theorem dX2_settledAsSignal_61 : decode cX2_settledAsSignal 61 = .ok (.aload_n 0, 1) := by decide +kernel
theorem dX2_settledAsSignal_62 : decode cX2_settledAsSignal 62 = .ok (.iconst 4, 1) := by decide +kernel
theorem dX2_settledAsSignal_63 : decode cX2_settledAsSignal 63 = .ok (.iload_n 1, 1) := by decide +kernel
theorem dX2_settledAsSignal_64 : decode cX2_settledAsSignal 64 = .ok (.invokevirtual 226, 3) := by decide +kernel
theorem dX2_settledAsSignal_67 : decode cX2_settledAsSignal 67 = .ok (.goto 5, 3) := by decide +kernel
theorem dX2_settledAsSignal_70 : decode cX2_settledAsSignal 70 = .ok (.iconst 0, 1) := by decide +kernel
theorem dX2_settledAsSignal_71 : decode cX2_settledAsSignal 71 = .ok (.ireturn, 1) := by decide +kernel
theorem dX2_settledAsSignal_72 : decode cX2_settledAsSignal 72 = .ok (.iconst 1, 1) := by decide +kernel
theorem dX2_settledAsSignal_73 : decode cX2_settledAsSignal 73 = .ok (.ireturn, 1) := by decide +kernel
set_option maxRecDepth 20000 in
theorem ggX2_signal_X0_raise : GoodIn wsX2_signal wsX0_raise := goodIn_r _ [9, 10, 11, 120, 121] (by decide +kernel) (by decide +kernel)
set_option maxRecDepth 20000 in
theorem gX2_signal_X0_raise : GoodIn wsX2_signal (wsV RX2 104 RX0 yX0_raise wsX0_raise) := goodIn_app (goodIn_of _ (by decide +kernel)) ggX2_signal_X0_raise
set_option maxRecDepth 20000 in
theorem ggX2_signal_X2_isOn : GoodIn wsX2_signal wsX2_isOn := goodIn_r _ [16, 17, 97, 98, 99, 100, 101, 102, 103, 104, 105, 106, 107, 108, 109, 110, 111] (by decide +kernel) (by decide +kernel)
set_option maxRecDepth 20000 in
theorem gX2_signal_X2_isOn : GoodIn wsX2_signal (wsV RX2 186 RX2 yX2_isOn wsX2_isOn) := goodIn_app (goodIn_of _ (by decide +kernel)) ggX2_signal_X2_isOn
set_option maxRecDepth 20000 in
theorem ggX2_signal_X2_emptyStore : GoodIn wsX2_signal wsX2_emptyStore := goodIn_r _ [21, 22, 23, 24, 25, 26, 27, 28, 29, 30, 31, 32, 33, 34, 35, 36, 37, 38, 15, 39, 40, 41, 97, 98, 99, 100, 101, 102, 103, 104, 105, 106, 107, 108, 109, 110, 111, 122, 123, 124, 117, 118, 119] (by decide +kernel) (by decide +kernel)
set_option maxRecDepth 20000 in
theorem gX2_signal_X2_emptyStore : GoodIn wsX2_signal (wsV RX2 162 RX2 yX2_emptyStore wsX2_emptyStore) := goodIn_app (goodIn_of _ (by decide +kernel)) ggX2_signal_X2_emptyStore
set_option maxRecDepth 20000 in
theorem ggX2_signal_X3_empty : GoodIn wsX2_signal wsX3_empty := goodIn_r _ [34, 35, 117, 118, 119] (by decide +kernel) (by decide +kernel)
set_option maxRecDepth 20000 in
theorem gX2_signal_X3_empty : GoodIn wsX2_signal (wsV RX2 134 RX3 yX3_empty wsX3_empty) := goodIn_app (goodIn_of _ (by decide +kernel)) ggX2_signal_X3_empty
set_option maxRecDepth 20000 in
theorem ggX2_signal_X5_onlyLeft : GoodIn wsX2_signal wsX5_onlyLeft := goodIn_r _ [47, 48, 49, 50, 51, 52, 53, 125, 126, 127, 128, 129] (by decide +kernel) (by decide +kernel)
set_option maxRecDepth 20000 in
theorem gX2_signal_X5_onlyLeft : GoodIn wsX2_signal (wsV RX2 138 RX5 yX5_onlyLeft wsX5_onlyLeft) := goodIn_app (goodIn_of _ (by decide +kernel)) ggX2_signal_X5_onlyLeft
set_option maxRecDepth 20000 in
theorem ggX2_signal_X2_draftForm : GoodIn wsX2_signal wsX2_draftForm := goodIn_r _ [57, 58, 42, 31, 32, 33, 34, 35, 59, 60, 61, 15, 62, 63, 64, 65, 66, 67, 68, 69, 70, 71, 97, 98, 99, 100, 101, 102, 103, 104, 105, 106, 107, 108, 109, 110, 111, 117, 118, 119] (by decide +kernel) (by decide +kernel)
set_option maxRecDepth 20000 in
theorem gX2_signal_X2_draftForm : GoodIn wsX2_signal (wsV RX2 232 RX2 yX2_draftForm wsX2_draftForm) := goodIn_app (goodIn_of _ (by decide +kernel)) ggX2_signal_X2_draftForm
set_option maxRecDepth 20000 in
theorem ggX2_signal_X2_echo : GoodIn wsX2_signal wsX2_echo := goodIn_r _ [75, 3, 58, 76, 12, 13, 14, 15, 16, 17, 77, 78, 79, 80, 81, 82, 83, 84, 85, 86, 33, 87, 70, 35, 88, 89, 90, 91, 71, 92, 67, 68, 69, 93, 94, 95, 96, 97, 98, 99, 100, 101, 102, 103, 104, 105, 106, 107, 108, 109, 110, 111, 117, 118, 119, 112, 113, 114, 115, 116] (by decide +kernel) (by decide +kernel)
set_option maxRecDepth 20000 in
theorem gX2_signal_X2_echo : GoodIn wsX2_signal (wsV RX2 235 RX2 yX2_echo wsX2_echo) := goodIn_app (goodIn_of _ (by decide +kernel)) ggX2_signal_X2_echo
theorem dX2_signal_0 : decode cX2_signal 0 = .ok (.aload_n 0, 1) := by decide +kernel
theorem dX2_signal_1 : decode cX2_signal 1 = .ok (.getfield 74, 3) := by decide +kernel
theorem dX2_signal_4 : decode cX2_signal 4 = .ok (.aload_n 0, 1) := by decide +kernel
theorem dX2_signal_5 : decode cX2_signal 5 = .ok (.getfield 67, 3) := by decide +kernel
theorem dX2_signal_8 : decode cX2_signal 8 = .ok (.iload_n 1, 1) := by decide +kernel
theorem dX2_signal_9 : decode cX2_signal 9 = .ok (.invokevirtual 104, 3) := by decide +kernel
theorem dX2_signal_12 : decode cX2_signal 12 = .ok (.aload_n 0, 1) := by decide +kernel
theorem dX2_signal_13 : decode cX2_signal 13 = .ok (.bipush 9, 2) := by decide +kernel
theorem dX2_signal_15 : decode cX2_signal 15 = .ok (.invokevirtual 186, 3) := by decide +kernel
theorem dX2_signal_18 : decode cX2_signal 18 = .ok (.ifCond .ne 39, 3) := by decide +kernel
theorem dX2_signal_21 : decode cX2_signal 21 = .ok (.aload_n 0, 1) := by decide +kernel
theorem dX2_signal_22 : decode cX2_signal 22 = .ok (.invokevirtual 162, 3) := by decide +kernel
theorem dX2_signal_25 : decode cX2_signal 25 = .ok (.iload_n 1, 1) := by decide +kernel
theorem dX2_signal_26 : decode cX2_signal 26 = .ok (.iconst 4, 1) := by decide +kernel
theorem dX2_signal_27 : decode cX2_signal 27 = .ok (.if_icmp .eq 30, 3) := by decide +kernel
theorem dX2_signal_30 : decode cX2_signal 30 = .ok (.aload_n 0, 1) := by decide +kernel
theorem dX2_signal_31 : decode cX2_signal 31 = .ok (.getfield 42, 3) := by decide +kernel
theorem dX2_signal_34 : decode cX2_signal 34 = .ok (.getfield 131, 3) := by decide +kernel
theorem dX2_signal_37 : decode cX2_signal 37 = .ok (.invokevirtual 134, 3) := by decide +kernel
theorem dX2_signal_40 : decode cX2_signal 40 = .ok (.aload_n 0, 1) := by decide +kernel
theorem dX2_signal_41 : decode cX2_signal 41 = .ok (.getfield 49, 3) := by decide +kernel
theorem dX2_signal_44 : decode cX2_signal 44 = .ok (.aload_n 0, 1) := by decide +kernel
theorem dX2_signal_45 : decode cX2_signal 45 = .ok (.getfield 42, 3) := by decide +kernel
theorem dX2_signal_48 : decode cX2_signal 48 = .ok (.getfield 135, 3) := by decide +kernel
theorem dX2_signal_51 : decode cX2_signal 51 = .ok (.getfield 147, 3) := by decide +kernel
theorem dX2_signal_54 : decode cX2_signal 54 = .ok (.invokevirtual 138, 3) := by decide +kernel
theorem dX2_signal_57 : decode cX2_signal 57 = .ok (.iload_n 2, 1) := by decide +kernel
theorem dX2_signal_58 : decode cX2_signal 58 = .ok (.sipush 256, 3) := by decide +kernel
theorem dX2_signal_61 : decode cX2_signal 61 = .ok (.if_icmp .eq 12, 3) := by decide +kernel
theorem dX2_signal_64 : decode cX2_signal 64 = .ok (.aload_n 0, 1) := by decide +kernel
theorem dX2_signal_65 : decode cX2_signal 65 = .ok (.iload_n 2, 1) := by decide +kernel
theorem dX2_signal_66 : decode cX2_signal 66 = .ok (.invokevirtual 232, 3) := by decide +kernel
theorem dX2_signal_69 : decode cX2_signal 69 = .ok (.aload_n 0, 1) := by decide +kernel
theorem dX2_signal_70 : decode cX2_signal 70 = .ok (.invokevirtual 235, 3) := by decide +kernel
theorem dX2_signal_73 : decode cX2_signal 73 = .ok (.return_, 1) := by decide +kernel
set_option maxRecDepth 20000 in
theorem ggX2_edit_X2_isOn : GoodIn wsX2_edit wsX2_isOn := goodIn_r _ [12, 1, 133, 134, 135, 136, 137, 138, 139, 140, 141, 142, 143, 144, 145, 146, 147] (by decide +kernel) (by decide +kernel)
set_option maxRecDepth 20000 in
theorem gX2_edit_X2_isOn : GoodIn wsX2_edit (wsV RX2 186 RX2 yX2_isOn wsX2_isOn) := goodIn_app (goodIn_of _ (by decide +kernel)) ggX2_edit_X2_isOn
set_option maxRecDepth 20000 in
theorem ggX2_edit_X2_keepAndEcho : GoodIn wsX2_edit wsX2_keepAndEcho := goodIn_r _ [16, 17, 18, 19, 11, 20, 2, 21, 22, 23, 8, 9, 10, 12, 1, 24, 25, 26, 27, 28, 29, 30, 31, 32, 33, 34, 35, 36, 37, 38, 39, 40, 41, 42, 43, 44, 45, 46, 47, 48, 5, 49, 50, 51, 52, 53, 54, 55, 56, 57, 58, 59, 60, 61, 62, 63, 64, 65, 66, 67, 68, 69, 70, 71, 72, 73, 74, 75, 76, 77, 78, 79, 80, 81, 82, 83, 84, 85, 86, 87, 88, 89, 90, 91, 92, 93, 133, 134, 135, 136, 137, 138, 139, 140, 141, 142, 143, 144, 145, 146, 147, 148, 149, 150, 151, 152, 153, 154, 155, 156, 157, 158] (by decide +kernel) (by decide +kernel)
set_option maxRecDepth 20000 in
theorem gX2_edit_X2_keepAndEcho : GoodIn wsX2_edit (wsV RX2 214 RX2 yX2_keepAndEcho wsX2_keepAndEcho) := goodIn_app (goodIn_of _ (by decide +kernel)) ggX2_edit_X2_keepAndEcho
set_option maxRecDepth 20000 in
theorem ggX2_edit_X4_openLine : GoodIn wsX2_edit wsX4_openLine := goodIn_r _ [97, 29, 54, 148, 149, 150, 151, 152, 153] (by decide +kernel) (by decide +kernel)
set_option maxRecDepth 20000 in
theorem gX2_edit_X4_openLine : GoodIn wsX2_edit (wsV RX2 238 RX4 yX4_openLine wsX4_openLine) := goodIn_app (goodIn_of _ (by decide +kernel)) ggX2_edit_X4_openLine
set_option maxRecDepth 20000 in
theorem ggX2_edit_X2_takeAway : GoodIn wsX2_edit wsX2_takeAway := goodIn_r _ [101, 59, 2, 60, 61, 62, 34, 63, 37, 102, 103, 104, 105, 106, 86, 87, 88, 42, 36, 68, 69, 11, 70, 71, 39, 40, 41, 72, 73, 74, 75, 76, 21, 8, 9, 10, 12, 1, 77, 78, 79, 80, 81, 82, 83, 84, 32, 33, 35, 85, 89, 90, 91, 92, 93, 107, 108, 109, 110, 22, 23, 133, 134, 135, 136, 137, 138, 139, 140, 141, 142, 143, 144, 145, 146, 147, 148, 149, 150, 151, 152, 153, 154, 155, 156, 157, 158] (by decide +kernel) (by decide +kernel)
set_option maxRecDepth 20000 in
theorem gX2_edit_X2_takeAway : GoodIn wsX2_edit (wsV RX2 244 RX2 yX2_takeAway wsX2_takeAway) := goodIn_app (goodIn_of _ (by decide +kernel)) ggX2_edit_X2_takeAway
set_option maxRecDepth 20000 in
theorem ggX2_edit_X4_lastWord : GoodIn wsX2_edit wsX4_lastWord := goodIn_r _ [114, 29, 115, 95, 96, 27, 97, 54, 116, 86, 87, 34, 88, 37, 42, 36, 117, 118, 119, 148, 149, 150, 151, 152, 153] (by decide +kernel) (by decide +kernel)
set_option maxRecDepth 20000 in
theorem gX2_edit_X4_lastWord : GoodIn wsX2_edit (wsV RX2 247 RX4 yX4_lastWord wsX4_lastWord) := goodIn_app (goodIn_of _ (by decide +kernel)) ggX2_edit_X4_lastWord
set_option maxRecDepth 20000 in
theorem ggX2_edit_X2_reprint : GoodIn wsX2_edit wsX2_reprint := goodIn_r _ [123, 59, 2, 55, 56, 57, 11, 58, 60, 61, 62, 34, 63, 37, 64, 65, 66, 67, 68, 69, 70, 71, 39, 40, 41, 36, 42, 124, 86, 87, 88, 72, 73, 74, 75, 76, 21, 8, 9, 10, 12, 1, 77, 78, 79, 80, 81, 82, 83, 84, 32, 33, 35, 85, 89, 90, 91, 92, 93, 133, 134, 135, 136, 137, 138, 139, 140, 141, 142, 143, 144, 145, 146, 147, 148, 149, 150, 151, 152, 153, 154, 155, 156, 157, 158] (by decide +kernel) (by decide +kernel)
set_option maxRecDepth 20000 in
theorem gX2_edit_X2_reprint : GoodIn wsX2_edit (wsV RX2 250 RX2 yX2_reprint wsX2_reprint) := goodIn_app (goodIn_of _ (by decide +kernel)) ggX2_edit_X2_reprint
set_option maxRecDepth 20000 in
theorem ggX2_edit_X2_endLine : GoodIn wsX2_edit wsX2_endLine := goodIn_r _ [128, 2, 17, 18, 19, 11, 20, 21, 22, 23, 8, 9, 10, 12, 1, 24, 25, 26, 27, 28, 29, 30, 31, 32, 33, 34, 35, 36, 37, 38, 39, 40, 41, 42, 43, 44, 45, 46, 47, 48, 5, 49, 50, 51, 52, 53, 54, 133, 134, 135, 136, 137, 138, 139, 140, 141, 142, 143, 144, 145, 146, 147, 148, 149, 150, 151, 152, 153] (by decide +kernel) (by decide +kernel)
set_option maxRecDepth 20000 in
theorem gX2_edit_X2_endLine : GoodIn wsX2_edit (wsV RX2 253 RX2 yX2_endLine wsX2_endLine) := goodIn_app (goodIn_of _ (by decide +kernel)) ggX2_edit_X2_endLine
set_option maxRecDepth 20000 in
theorem ggX2_edit_X2_draftNewline : GoodIn wsX2_edit wsX2_draftNewline := goodIn_r _ [132, 59, 60, 61, 62, 34, 63, 37, 71, 39, 40, 41, 36, 42, 133, 134, 135, 136, 137, 138, 139, 140, 141, 142, 143, 144, 145, 146, 147, 151, 152, 153] (by decide +kernel) (by decide +kernel)
set_option maxRecDepth 20000 in
theorem gX2_edit_X2_draftNewline : GoodIn wsX2_edit (wsV RX2 198 RX2 yX2_draftNewline wsX2_draftNewline) := goodIn_app (goodIn_of _ (by decide +kernel)) ggX2_edit_X2_draftNewline
set_option maxRecDepth 20000 in
theorem ggX2_edit_X2_echo : GoodIn wsX2_edit wsX2_echo := goodIn_r _ [75, 76, 59, 21, 8, 9, 10, 11, 12, 1, 77, 78, 79, 80, 81, 82, 83, 84, 32, 33, 34, 35, 36, 37, 85, 86, 87, 88, 42, 89, 39, 40, 41, 90, 91, 92, 93, 133, 134, 135, 136, 137, 138, 139, 140, 141, 142, 143, 144, 145, 146, 147, 151, 152, 153, 154, 155, 156, 157, 158] (by decide +kernel) (by decide +kernel)
set_option maxRecDepth 20000 in
theorem gX2_edit_X2_echo : GoodIn wsX2_edit (wsV RX2 235 RX2 yX2_echo wsX2_echo) := goodIn_app (goodIn_of _ (by decide +kernel)) ggX2_edit_X2_echo
theorem dX2_edit_0 : decode cX2_edit 0 = .ok (.aload_n 0, 1) := by decide +kernel
theorem dX2_edit_1 : decode cX2_edit 1 = .ok (.iconst 0, 1) := by decide +kernel
theorem dX2_edit_2 : decode cX2_edit 2 = .ok (.invokevirtual 186, 3) := by decide +kernel
theorem dX2_edit_5 : decode cX2_edit 5 = .ok (.ifCond .ne 11, 3) := by decide +kernel
theorem dX2_edit_8 : decode cX2_edit 8 = .ok (.aload_n 0, 1) := by decide +kernel
theorem dX2_edit_9 : decode cX2_edit 9 = .ok (.iload_n 1, 1) := by decide +kernel
theorem dX2_edit_10 : decode cX2_edit 10 = .ok (.invokevirtual 214, 3) := by decide +kernel
theorem dX2_edit_13 : decode cX2_edit 13 = .ok (.goto 173, 3) := by decide +kernel
theorem dX2_edit_16 : decode cX2_edit 16 = .ok (.iload_n 1, 1) := by decide +kernel
theorem dX2_edit_17 : decode cX2_edit 17 = .ok (.aload_n 0, 1) := by decide +kernel
theorem dX2_edit_18 : decode cX2_edit 18 = .ok (.getfield 18, 3) := by decide +kernel
theorem dX2_edit_21 : decode cX2_edit 21 = .ok (.bipush 14, 2) := by decide +kernel
theorem dX2_edit_23 : decode cX2_edit 23 = .ok (.iaload, 1) := by decide +kernel
theorem dX2_edit_24 : decode cX2_edit 24 = .ok (.if_icmp .ne 21, 3) := by decide +kernel
theorem dX2_edit_27 : decode cX2_edit 27 = .ok (.aload_n 0, 1) := by decide +kernel
theorem dX2_edit_28 : decode cX2_edit 28 = .ok (.iconst 1, 1) := by decide +kernel
theorem dX2_edit_29 : decode cX2_edit 29 = .ok (.aload_n 0, 1) := by decide +kernel
theorem dX2_edit_30 : decode cX2_edit 30 = .ok (.getfield 35, 3) := by decide +kernel
theorem dX2_edit_33 : decode cX2_edit 33 = .ok (.invokevirtual 238, 3) := by decide +kernel
theorem dX2_edit_36 : decode cX2_edit 36 = .ok (.invokestatic 241, 3) := by decide +kernel
theorem dX2_edit_39 : decode cX2_edit 39 = .ok (.invokevirtual 244, 3) := by decide +kernel
theorem dX2_edit_42 : decode cX2_edit 42 = .ok (.goto 144, 3) := by decide +kernel
theorem dX2_edit_45 : decode cX2_edit 45 = .ok (.iload_n 1, 1) := by decide +kernel
theorem dX2_edit_46 : decode cX2_edit 46 = .ok (.aload_n 0, 1) := by decide +kernel
theorem dX2_edit_47 : decode cX2_edit 47 = .ok (.getfield 18, 3) := by decide +kernel
theorem dX2_edit_50 : decode cX2_edit 50 = .ok (.bipush 15, 2) := by decide +kernel
theorem dX2_edit_52 : decode cX2_edit 52 = .ok (.iaload, 1) := by decide +kernel
theorem dX2_edit_53 : decode cX2_edit 53 = .ok (.if_icmp .ne 17, 3) := by decide +kernel
theorem dX2_edit_56 : decode cX2_edit 56 = .ok (.aload_n 0, 1) := by decide +kernel
theorem dX2_edit_57 : decode cX2_edit 57 = .ok (.aload_n 0, 1) := by decide +kernel
theorem dX2_edit_58 : decode cX2_edit 58 = .ok (.getfield 35, 3) := by decide +kernel
theorem dX2_edit_61 : decode cX2_edit 61 = .ok (.invokevirtual 247, 3) := by decide +kernel
theorem dX2_edit_64 : decode cX2_edit 64 = .ok (.invokevirtual 244, 3) := by decide +kernel
theorem dX2_edit_67 : decode cX2_edit 67 = .ok (.goto 119, 3) := by decide +kernel
theorem dX2_edit_70 : decode cX2_edit 70 = .ok (.iload_n 1, 1) := by decide +kernel
theorem dX2_edit_71 : decode cX2_edit 71 = .ok (.aload_n 0, 1) := by decide +kernel
theorem dX2_edit_72 : decode cX2_edit 72 = .ok (.getfield 18, 3) := by decide +kernel
theorem dX2_edit_75 : decode cX2_edit 75 = .ok (.bipush 16, 2) := by decide +kernel
theorem dX2_edit_77 : decode cX2_edit 77 = .ok (.iaload, 1) := by decide +kernel
theorem dX2_edit_78 : decode cX2_edit 78 = .ok (.if_icmp .ne 17, 3) := by decide +kernel
theorem dX2_edit_81 : decode cX2_edit 81 = .ok (.aload_n 0, 1) := by decide +kernel
theorem dX2_edit_82 : decode cX2_edit 82 = .ok (.aload_n 0, 1) := by decide +kernel
theorem dX2_edit_83 : decode cX2_edit 83 = .ok (.getfield 35, 3) := by decide +kernel
theorem dX2_edit_86 : decode cX2_edit 86 = .ok (.invokevirtual 238, 3) := by decide +kernel
theorem dX2_edit_89 : decode cX2_edit 89 = .ok (.invokevirtual 244, 3) := by decide +kernel
theorem dX2_edit_92 : decode cX2_edit 92 = .ok (.goto 94, 3) := by decide +kernel
theorem dX2_edit_95 : decode cX2_edit 95 = .ok (.iload_n 1, 1) := by decide +kernel
theorem dX2_edit_96 : decode cX2_edit 96 = .ok (.aload_n 0, 1) := by decide +kernel
theorem dX2_edit_97 : decode cX2_edit 97 = .ok (.getfield 18, 3) := by decide +kernel
theorem dX2_edit_100 : decode cX2_edit 100 = .ok (.bipush 17, 2) := by decide +kernel
theorem dX2_edit_102 : decode cX2_edit 102 = .ok (.iaload, 1) := by decide +kernel
theorem dX2_edit_103 : decode cX2_edit 103 = .ok (.if_icmp .ne 11, 3) := by decide +kernel
theorem dX2_edit_106 : decode cX2_edit 106 = .ok (.aload_n 0, 1) := by decide +kernel
theorem dX2_edit_107 : decode cX2_edit 107 = .ok (.iconst 1, 1) := by decide +kernel
theorem dX2_edit_108 : decode cX2_edit 108 = .ok (.putfield 211, 3) := by decide +kernel
theorem dX2_edit_111 : decode cX2_edit 111 = .ok (.goto 75, 3) := by decide +kernel
theorem dX2_edit_114 : decode cX2_edit 114 = .ok (.iload_n 1, 1) := by decide +kernel
theorem dX2_edit_115 : decode cX2_edit 115 = .ok (.aload_n 0, 1) := by decide +kernel
theorem dX2_edit_116 : decode cX2_edit 116 = .ok (.getfield 18, 3) := by decide +kernel
theorem dX2_edit_119 : decode cX2_edit 119 = .ok (.bipush 18, 2) := by decide +kernel
theorem dX2_edit_121 : decode cX2_edit 121 = .ok (.iaload, 1) := by decide +kernel
theorem dX2_edit_122 : decode cX2_edit 122 = .ok (.if_icmp .ne 11, 3) := by decide +kernel
theorem dX2_edit_125 : decode cX2_edit 125 = .ok (.aload_n 0, 1) := by decide +kernel
theorem dX2_edit_126 : decode cX2_edit 126 = .ok (.iload_n 1, 1) := by decide +kernel
theorem dX2_edit_127 : decode cX2_edit 127 = .ok (.invokevirtual 250, 3) := by decide +kernel
theorem dX2_edit_130 : decode cX2_edit 130 = .ok (.goto 56, 3) := by decide +kernel
theorem dX2_edit_133 : decode cX2_edit 133 = .ok (.iload_n 1, 1) := by decide +kernel
theorem dX2_edit_134 : decode cX2_edit 134 = .ok (.aload_n 0, 1) := by decide +kernel
theorem dX2_edit_135 : decode cX2_edit 135 = .ok (.getfield 18, 3) := by decide +kernel
theorem dX2_edit_138 : decode cX2_edit 138 = .ok (.bipush 19, 2) := by decide +kernel
theorem dX2_edit_140 : decode cX2_edit 140 = .ok (.iaload, 1) := by decide +kernel
theorem dX2_edit_141 : decode cX2_edit 141 = .ok (.if_icmp .ne 14, 3) := by decide +kernel
theorem dX2_edit_144 : decode cX2_edit 144 = .ok (.aload_n 0, 1) := by decide +kernel
theorem dX2_edit_145 : decode cX2_edit 145 = .ok (.sipush 256, 3) := by decide +kernel
theorem dX2_edit_148 : decode cX2_edit 148 = .ok (.invokevirtual 253, 3) := by decide +kernel
theorem dX2_edit_151 : decode cX2_edit 151 = .ok (.pop, 1) := by decide +kernel
theorem dX2_edit_152 : decode cX2_edit 152 = .ok (.goto 34, 3) := by decide +kernel
theorem dX2_edit_155 : decode cX2_edit 155 = .ok (.iload_n 1, 1) := by decide +kernel
theorem dX2_edit_156 : decode cX2_edit 156 = .ok (.bipush 10, 2) := by decide +kernel
theorem dX2_edit_158 : decode cX2_edit 158 = .ok (.if_icmp .ne 23, 3) := by decide +kernel
theorem dX2_edit_161 : decode cX2_edit 161 = .ok (.aload_n 0, 1) := by decide +kernel
theorem dX2_edit_162 : decode cX2_edit 162 = .ok (.bipush 10, 2) := by decide +kernel
theorem dX2_edit_164 : decode cX2_edit 164 = .ok (.invokevirtual 253, 3) := by decide +kernel
theorem dX2_edit_167 : decode cX2_edit 167 = .ok (.ifCond .eq 19, 3) := by decide +kernel
theorem dX2_edit_170 : decode cX2_edit 170 = .ok (.aload_n 0, 1) := by decide +kernel
theorem dX2_edit_171 : decode cX2_edit 171 = .ok (.invokevirtual 198, 3) := by decide +kernel
theorem dX2_edit_174 : decode cX2_edit 174 = .ok (.aload_n 0, 1) := by decide +kernel
theorem dX2_edit_175 : decode cX2_edit 175 = .ok (.invokevirtual 235, 3) := by decide +kernel
theorem dX2_edit_178 : decode cX2_edit 178 = .ok (.goto 8, 3) := by decide +kernel
theorem dX2_edit_181 : decode cX2_edit 181 = .ok (.aload_n 0, 1) := by decide +kernel
theorem dX2_edit_182 : decode cX2_edit 182 = .ok (.iload_n 1, 1) := by decide +kernel
theorem dX2_edit_183 : decode cX2_edit 183 = .ok (.invokevirtual 214, 3) := by decide +kernel
theorem dX2_edit_186 : decode cX2_edit 186 = .ok (.return_, 1) := by decide +kernel
set_option maxRecDepth 20000 in
theorem ggX2_keepAndEcho_X2_keep : GoodIn wsX2_keepAndEcho wsX2_keep := goodIn_r _ [5, 6, 7, 8, 9, 10, 11, 12, 4, 13, 14, 15, 16, 17, 18, 19, 20, 21, 22, 23, 24, 25, 26, 27, 28, 29, 30, 31, 32, 33, 34, 35, 36, 37, 38, 39, 40, 41, 42, 43, 44, 45, 46, 86, 87, 88, 89, 90, 91, 92, 93, 94, 95, 96, 97, 98, 99, 100, 101, 102, 103, 104, 105, 106] (by decide +kernel) (by decide +kernel)
set_option maxRecDepth 20000 in
theorem gX2_keepAndEcho_X2_keep : GoodIn wsX2_keepAndEcho (wsV RX2 256 RX2 yX2_keep wsX2_keep) := goodIn_app (goodIn_of _ (by decide +kernel)) ggX2_keepAndEcho_X2_keep
set_option maxRecDepth 20000 in
theorem ggX2_keepAndEcho_X2_draftForm : GoodIn wsX2_keepAndEcho wsX2_draftForm := goodIn_r _ [50, 51, 52, 53, 54, 25, 55, 28, 56, 57, 58, 4, 59, 60, 61, 62, 63, 30, 31, 32, 27, 33, 86, 87, 88, 89, 90, 91, 92, 93, 94, 95, 96, 97, 98, 99, 100, 104, 105, 106] (by decide +kernel) (by decide +kernel)
set_option maxRecDepth 20000 in
theorem gX2_keepAndEcho_X2_draftForm : GoodIn wsX2_keepAndEcho (wsV RX2 232 RX2 yX2_draftForm wsX2_draftForm) := goodIn_app (goodIn_of _ (by decide +kernel)) ggX2_keepAndEcho_X2_draftForm
set_option maxRecDepth 20000 in
theorem ggX2_keepAndEcho_X2_echo : GoodIn wsX2_keepAndEcho wsX2_echo := goodIn_r _ [67, 68, 51, 7, 10, 11, 12, 4, 13, 14, 69, 70, 71, 72, 73, 74, 75, 76, 23, 24, 25, 26, 27, 28, 77, 78, 79, 80, 33, 81, 30, 31, 32, 82, 83, 84, 85, 86, 87, 88, 89, 90, 91, 92, 93, 94, 95, 96, 97, 98, 99, 100, 104, 105, 106, 107, 108, 109, 110, 111] (by decide +kernel) (by decide +kernel)
set_option maxRecDepth 20000 in
theorem gX2_keepAndEcho_X2_echo : GoodIn wsX2_keepAndEcho (wsV RX2 235 RX2 yX2_echo wsX2_echo) := goodIn_app (goodIn_of _ (by decide +kernel)) ggX2_keepAndEcho_X2_echo
theorem dX2_keepAndEcho_0 : decode cX2_keepAndEcho 0 = .ok (.aload_n 0, 1) := by decide +kernel
theorem dX2_keepAndEcho_1 : decode cX2_keepAndEcho 1 = .ok (.iload_n 1, 1) := by decide +kernel
theorem dX2_keepAndEcho_2 : decode cX2_keepAndEcho 2 = .ok (.invokevirtual 256, 3) := by decide +kernel
theorem dX2_keepAndEcho_5 : decode cX2_keepAndEcho 5 = .ok (.ifCond .eq 12, 3) := by decide +kernel
theorem dX2_keepAndEcho_8 : decode cX2_keepAndEcho 8 = .ok (.aload_n 0, 1) := by decide +kernel
theorem dX2_keepAndEcho_9 : decode cX2_keepAndEcho 9 = .ok (.iload_n 1, 1) := by decide +kernel
theorem dX2_keepAndEcho_10 : decode cX2_keepAndEcho 10 = .ok (.invokevirtual 232, 3) := by decide +kernel
theorem dX2_keepAndEcho_13 : decode cX2_keepAndEcho 13 = .ok (.aload_n 0, 1) := by decide +kernel
theorem dX2_keepAndEcho_14 : decode cX2_keepAndEcho 14 = .ok (.invokevirtual 235, 3) := by decide +kernel
theorem dX2_keepAndEcho_17 : decode cX2_keepAndEcho 17 = .ok (.return_, 1) := by decide +kernel
set_option maxRecDepth 20000 in
theorem ggX2_endLine_X2_keep : GoodIn wsX2_endLine wsX2_keep := goodIn_r _ [6, 1, 7, 8, 9, 10, 11, 12, 5, 13, 14, 15, 16, 17, 18, 19, 20, 21, 22, 23, 24, 25, 26, 27, 28, 29, 30, 31, 32, 33, 34, 35, 36, 37, 38, 39, 40, 41, 42, 43, 44, 45, 46, 47, 48, 49, 50, 51, 52, 53, 54, 55, 56, 57, 58, 59, 60, 61, 62, 63, 64, 65, 66, 67] (by decide +kernel) (by decide +kernel)
set_option maxRecDepth 20000 in
theorem gX2_endLine_X2_keep : GoodIn wsX2_endLine (wsV RX2 256 RX2 yX2_keep wsX2_keep) := goodIn_app (goodIn_of _ (by decide +kernel)) ggX2_endLine_X2_keep
set_option maxRecDepth 20000 in
theorem ggX2_endLine_X4_releaseAll : GoodIn wsX2_endLine wsX4_releaseAll := goodIn_r _ [45, 20, 46, 62, 63, 64, 65, 66, 67] (by decide +kernel) (by decide +kernel)
set_option maxRecDepth 20000 in
theorem gX2_endLine_X4_releaseAll : GoodIn wsX2_endLine (wsV RX2 180 RX4 yX4_releaseAll wsX4_releaseAll) := goodIn_app (goodIn_of _ (by decide +kernel)) ggX2_endLine_X4_releaseAll
theorem dX2_endLine_0 : decode cX2_endLine 0 = .ok (.aload_n 0, 1) := by decide +kernel
theorem dX2_endLine_1 : decode cX2_endLine 1 = .ok (.iload_n 1, 1) := by decide +kernel
theorem dX2_endLine_2 : decode cX2_endLine 2 = .ok (.invokevirtual 256, 3) := by decide +kernel
theorem dX2_endLine_5 : decode cX2_endLine 5 = .ok (.istore_n 2, 1) := by decide +kernel
theorem dX2_endLine_6 : decode cX2_endLine 6 = .ok (.iload_n 2, 1) := by decide +kernel
theorem dX2_endLine_7 : decode cX2_endLine 7 = .ok (.ifCond .eq 10, 3) := by decide +kernel
theorem dX2_endLine_10 : decode cX2_endLine 10 = .ok (.aload_n 0, 1) := by decide +kernel
theorem dX2_endLine_11 : decode cX2_endLine 11 = .ok (.getfield 35, 3) := by decide +kernel
theorem dX2_endLine_14 : decode cX2_endLine 14 = .ok (.invokevirtual 180, 3) := by decide +kernel
theorem dX2_endLine_17 : decode cX2_endLine 17 = .ok (.iload_n 2, 1) := by decide +kernel
theorem dX2_endLine_18 : decode cX2_endLine 18 = .ok (.ireturn, 1) := by decide +kernel
set_option maxRecDepth 20000 in
theorem ggX2_keep_X2_isOn : GoodIn wsX2_keep wsX2_isOn := goodIn_r _ [9, 10, 43, 44, 45, 46, 47, 48, 49, 50, 51, 52, 53, 54, 55, 56, 57] (by decide +kernel) (by decide +kernel)
set_option maxRecDepth 20000 in
theorem gX2_keep_X2_isOn : GoodIn wsX2_keep (wsV RX2 186 RX2 yX2_isOn wsX2_isOn) := goodIn_app (goodIn_of _ (by decide +kernel)) ggX2_keep_X2_isOn
set_option maxRecDepth 20000 in
theorem ggX2_keep_X4_add : GoodIn wsX2_keep wsX4_add := goodIn_r _ [15, 16, 17, 18, 19, 20, 21, 22, 23, 24, 25, 26, 27, 28, 29, 58, 59, 60, 61, 62, 63] (by decide +kernel) (by decide +kernel)
set_option maxRecDepth 20000 in
theorem gX2_keep_X4_add : GoodIn wsX2_keep (wsV RX2 259 RX4 yX4_add wsX4_add) := goodIn_app (goodIn_of _ (by decide +kernel)) ggX2_keep_X4_add
set_option maxRecDepth 20000 in
theorem ggX2_keep_X2_releaseIfEnough : GoodIn wsX2_keep wsX2_releaseIfEnough := goodIn_r _ [33, 1, 10, 34, 35, 36, 37, 5, 6, 7, 8, 9, 38, 39, 40, 14, 41, 16, 42, 43, 44, 45, 46, 47, 48, 49, 50, 51, 52, 53, 54, 55, 56, 57, 58, 59, 60, 61, 62, 63] (by decide +kernel) (by decide +kernel)
set_option maxRecDepth 20000 in
theorem gX2_keep_X2_releaseIfEnough : GoodIn wsX2_keep (wsV RX2 183 RX2 yX2_releaseIfEnough wsX2_releaseIfEnough) := goodIn_app (goodIn_of _ (by decide +kernel)) ggX2_keep_X2_releaseIfEnough
theorem dX2_keep_0 : decode cX2_keep 0 = .ok (.aload_n 0, 1) := by decide +kernel
theorem dX2_keep_1 : decode cX2_keep 1 = .ok (.iconst 0, 1) := by decide +kernel
theorem dX2_keep_2 : decode cX2_keep 2 = .ok (.invokevirtual 186, 3) := by decide +kernel
theorem dX2_keep_5 : decode cX2_keep 5 = .ok (.ifCond .eq 20, 3) := by decide +kernel
theorem dX2_keep_8 : decode cX2_keep 8 = .ok (.iload_n 1, 1) := by decide +kernel
theorem dX2_keep_9 : decode cX2_keep 9 = .ok (.bipush 10, 2) := by decide +kernel
theorem dX2_keep_11 : decode cX2_keep 11 = .ok (.if_icmp .eq 10, 3) := by decide +kernel
theorem dX2_keep_14 : decode cX2_keep 14 = .ok (.iload_n 1, 1) := by decide +kernel
theorem dX2_keep_15 : decode cX2_keep 15 = .ok (.sipush 256, 3) := by decide +kernel
theorem dX2_keep_18 : decode cX2_keep 18 = .ok (.if_icmp .ne 7, 3) := by decide +kernel
theorem dX2_keep_21 : decode cX2_keep 21 = .ok (.iconst 1, 1) := by decide +kernel
theorem dX2_keep_22 : decode cX2_keep 22 = .ok (.goto 4, 3) := by decide +kernel
theorem dX2_keep_25 : decode cX2_keep 25 = .ok (.iconst 0, 1) := by decide +kernel
theorem dX2_keep_26 : decode cX2_keep 26 = .ok (.istore_n 2, 1) := by decide +kernel
theorem dX2_keep_27 : decode cX2_keep 27 = .ok (.aload_n 0, 1) := by decide +kernel
theorem dX2_keep_28 : decode cX2_keep 28 = .ok (.getfield 35, 3) := by decide +kernel
theorem dX2_keep_31 : decode cX2_keep 31 = .ok (.iload_n 1, 1) := by decide +kernel
theorem dX2_keep_32 : decode cX2_keep 32 = .ok (.iload_n 2, 1) := by decide +kernel
theorem dX2_keep_33 : decode cX2_keep 33 = .ok (.invokevirtual 259, 3) := by decide +kernel
theorem dX2_keep_36 : decode cX2_keep 36 = .ok (.ifCond .ne 15, 3) := by decide +kernel
theorem dX2_keep_39 : decode cX2_keep 39 = .ok (.aload_n 0, 1) := by decide +kernel
theorem dX2_keep_40 : decode cX2_keep 40 = .ok (.getfield 60, 3) := by decide +kernel
theorem dX2_keep_43 : decode cX2_keep 43 = .ok (.iconst 2, 1) := by decide +kernel
theorem dX2_keep_44 : decode cX2_keep 44 = .ok (.dup2, 1) := by decide +kernel
theorem dX2_keep_45 : decode cX2_keep 45 = .ok (.iaload, 1) := by decide +kernel
theorem dX2_keep_46 : decode cX2_keep 46 = .ok (.iconst 1, 1) := by decide +kernel
theorem dX2_keep_47 : decode cX2_keep 47 = .ok (.iadd, 1) := by decide +kernel
theorem dX2_keep_48 : decode cX2_keep 48 = .ok (.iastore, 1) := by decide +kernel
theorem dX2_keep_49 : decode cX2_keep 49 = .ok (.iconst 0, 1) := by decide +kernel
theorem dX2_keep_50 : decode cX2_keep 50 = .ok (.ireturn, 1) := by decide +kernel
theorem dX2_keep_51 : decode cX2_keep 51 = .ok (.aload_n 0, 1) := by decide +kernel
theorem dX2_keep_52 : decode cX2_keep 52 = .ok (.invokevirtual 183, 3) := by decide +kernel
theorem dX2_keep_55 : decode cX2_keep 55 = .ok (.aload_n 0, 1) := by decide +kernel
theorem dX2_keep_56 : decode cX2_keep 56 = .ok (.bipush 6, 2) := by decide +kernel
theorem dX2_keep_58 : decode cX2_keep 58 = .ok (.invokevirtual 186, 3) := by decide +kernel
theorem dX2_keep_61 : decode cX2_keep 61 = .ok (.ifCond .eq 36, 3) := by decide +kernel
theorem dX2_keep_64 : decode cX2_keep 64 = .ok (.aload_n 0, 1) := by decide +kernel
theorem dX2_keep_65 : decode cX2_keep 65 = .ok (.getfield 141, 3) := by decide +kernel
theorem dX2_keep_68 : decode cX2_keep 68 = .ok (.ifCond .ne 29, 3) := by decide +kernel
theorem dX2_keep_71 : decode cX2_keep 71 = .ok (.aload_n 0, 1) := by decide +kernel
theorem dX2_keep_72 : decode cX2_keep 72 = .ok (.getfield 35, 3) := by decide +kernel
theorem dX2_keep_75 : decode cX2_keep 75 = .ok (.getfield 144, 3) := by decide +kernel
theorem dX2_keep_78 : decode cX2_keep 78 = .ok (.getfield 147, 3) := by decide +kernel
theorem dX2_keep_81 : decode cX2_keep 81 = .ok (.bipush 48, 2) := by decide +kernel
theorem dX2_keep_83 : decode cX2_keep 83 = .ok (.if_icmp .le 14, 3) := by decide +kernel
theorem dX2_keep_86 : decode cX2_keep 86 = .ok (.aload_n 0, 1) := by decide +kernel
theorem dX2_keep_87 : decode cX2_keep 87 = .ok (.iconst 1, 1) := by decide +kernel
theorem dX2_keep_88 : decode cX2_keep 88 = .ok (.putfield 141, 3) := by decide +kernel
theorem dX2_keep_91 : decode cX2_keep 91 = .ok (.aload_n 0, 1) := by decide +kernel
theorem dX2_keep_92 : decode cX2_keep 92 = .ok (.bipush 24, 2) := by decide +kernel
theorem dX2_keep_94 : decode cX2_keep 94 = .ok (.putfield 71, 3) := by decide +kernel
theorem dX2_keep_97 : decode cX2_keep 97 = .ok (.iconst 1, 1) := by decide +kernel
theorem dX2_keep_98 : decode cX2_keep 98 = .ok (.ireturn, 1) := by decide +kernel
set_option maxRecDepth 20000 in
theorem ggX2_takeAway_X3_empty : GoodIn wsX2_takeAway wsX3_empty := goodIn_r _ [7, 8, 79, 80, 81] (by decide +kernel) (by decide +kernel)
set_option maxRecDepth 20000 in
theorem gX2_takeAway_X3_empty : GoodIn wsX2_takeAway (wsV RX2 134 RX3 yX3_empty wsX3_empty) := goodIn_app (goodIn_of _ (by decide +kernel)) ggX2_takeAway_X3_empty
set_option maxRecDepth 20000 in
theorem ggX2_takeAway_X3_takeLast : GoodIn wsX2_takeAway wsX3_takeLast := goodIn_r _ [12, 8, 13, 14, 15, 6, 16, 17, 18, 79, 80, 81] (by decide +kernel) (by decide +kernel)
set_option maxRecDepth 20000 in
theorem gX2_takeAway_X3_takeLast : GoodIn wsX2_takeAway (wsV RX2 262 RX3 yX3_takeLast wsX3_takeLast) := goodIn_app (goodIn_of _ (by decide +kernel)) ggX2_takeAway_X3_takeLast
set_option maxRecDepth 20000 in
theorem ggX2_takeAway_X2_isPlain : GoodIn wsX2_takeAway wsX2_isPlain := goodIn_r _ [22] (by decide +kernel) (by decide +kernel)
set_option maxRecDepth 20000 in
theorem gX2_takeAway_X2_isPlain : GoodIn wsX2_takeAway (va_wsS RX2 265 yX2_isPlain wsX2_isPlain) := goodIn_app (goodIn_of _ (by decide +kernel)) ggX2_takeAway_X2_isPlain
set_option maxRecDepth 20000 in
theorem ggX2_takeAway_X3_add : GoodIn wsX2_takeAway wsX3_add := goodIn_r _ [26, 8, 18, 17, 79, 80, 81] (by decide +kernel) (by decide +kernel)
set_option maxRecDepth 20000 in
theorem gX2_takeAway_X3_add : GoodIn wsX2_takeAway (wsV RX2 82 RX3 yX3_add wsX3_add) := goodIn_app (goodIn_of _ (by decide +kernel)) ggX2_takeAway_X3_add
set_option maxRecDepth 20000 in
theorem ggX2_takeAway_X2_echo : GoodIn wsX2_takeAway wsX2_echo := goodIn_r _ [30, 31, 1, 32, 33, 34, 35, 21, 36, 37, 38, 39, 40, 41, 42, 43, 44, 45, 46, 47, 6, 48, 18, 8, 49, 14, 15, 16, 17, 50, 24, 25, 26, 51, 52, 53, 54, 61, 62, 63, 64, 65, 66, 67, 68, 69, 70, 71, 72, 73, 74, 75, 79, 80, 81, 82, 83, 84, 85, 86] (by decide +kernel) (by decide +kernel)
set_option maxRecDepth 20000 in
theorem gX2_takeAway_X2_echo : GoodIn wsX2_takeAway (wsV RX2 235 RX2 yX2_echo wsX2_echo) := goodIn_app (goodIn_of _ (by decide +kernel)) ggX2_takeAway_X2_echo
set_option maxRecDepth 20000 in
theorem ggX2_takeAway_X2_relax : GoodIn wsX2_takeAway wsX2_relax := goodIn_r _ [58, 59, 2, 60, 61, 62, 63, 64, 65, 66, 67, 68, 69, 70, 71, 72, 73, 74, 75, 76, 77, 78, 79, 80, 81] (by decide +kernel) (by decide +kernel)
set_option maxRecDepth 20000 in
theorem gX2_takeAway_X2_relax : GoodIn wsX2_takeAway (wsV RX2 125 RX2 yX2_relax wsX2_relax) := goodIn_app (goodIn_of _ (by decide +kernel)) ggX2_takeAway_X2_relax
theorem dX2_takeAway_0 : decode cX2_takeAway 0 = .ok (.iconst 0, 1) := by decide +kernel
theorem dX2_takeAway_1 : decode cX2_takeAway 1 = .ok (.istore_n 2, 1) := by decide +kernel
theorem dX2_takeAway_2 : decode cX2_takeAway 2 = .ok (.iload_n 2, 1) := by decide +kernel
theorem dX2_takeAway_3 : decode cX2_takeAway 3 = .ok (.iload_n 1, 1) := by decide +kernel
theorem dX2_takeAway_4 : decode cX2_takeAway 4 = .ok (.if_icmp .ge 84, 3) := by decide +kernel
theorem dX2_takeAway_7 : decode cX2_takeAway 7 = .ok (.aload_n 0, 1) := by decide +kernel
theorem dX2_takeAway_8 : decode cX2_takeAway 8 = .ok (.getfield 53, 3) := by decide +kernel
theorem dX2_takeAway_11 : decode cX2_takeAway 11 = .ok (.invokevirtual 134, 3) := by decide +kernel
theorem dX2_takeAway_14 : decode cX2_takeAway 14 = .ok (.aload_n 0, 1) := by decide +kernel
theorem dX2_takeAway_15 : decode cX2_takeAway 15 = .ok (.getfield 35, 3) := by decide +kernel
theorem dX2_takeAway_18 : decode cX2_takeAway 18 = .ok (.getfield 144, 3) := by decide +kernel
theorem dX2_takeAway_21 : decode cX2_takeAway 21 = .ok (.invokevirtual 262, 3) := by decide +kernel
theorem dX2_takeAway_24 : decode cX2_takeAway 24 = .ok (.invokestatic 265, 3) := by decide +kernel
theorem dX2_takeAway_27 : decode cX2_takeAway 27 = .ok (.ifCond .eq 7, 3) := by decide +kernel
theorem dX2_takeAway_30 : decode cX2_takeAway 30 = .ok (.iconst 1, 1) := by decide +kernel
theorem dX2_takeAway_31 : decode cX2_takeAway 31 = .ok (.goto 4, 3) := by decide +kernel
theorem dX2_takeAway_34 : decode cX2_takeAway 34 = .ok (.iconst 2, 1) := by decide +kernel
theorem dX2_takeAway_35 : decode cX2_takeAway 35 = .ok (.istore_n 3, 1) := by decide +kernel
theorem dX2_takeAway_36 : decode cX2_takeAway 36 = .ok (.iconst 0, 1) := by decide +kernel
theorem dX2_takeAway_37 : decode cX2_takeAway 37 = .ok (.istore 4, 2) := by decide +kernel
theorem dX2_takeAway_39 : decode cX2_takeAway 39 = .ok (.iload 4, 2) := by decide +kernel
theorem dX2_takeAway_41 : decode cX2_takeAway 41 = .ok (.iload_n 3, 1) := by decide +kernel
theorem dX2_takeAway_42 : decode cX2_takeAway 42 = .ok (.if_icmp .ge 36, 3) := by decide +kernel
theorem dX2_takeAway_45 : decode cX2_takeAway 45 = .ok (.aload_n 0, 1) := by decide +kernel
theorem dX2_takeAway_46 : decode cX2_takeAway 46 = .ok (.getfield 53, 3) := by decide +kernel
theorem dX2_takeAway_49 : decode cX2_takeAway 49 = .ok (.bipush 8, 2) := by decide +kernel
theorem dX2_takeAway_51 : decode cX2_takeAway 51 = .ok (.invokevirtual 82, 3) := by decide +kernel
theorem dX2_takeAway_54 : decode cX2_takeAway 54 = .ok (.aload_n 0, 1) := by decide +kernel
theorem dX2_takeAway_55 : decode cX2_takeAway 55 = .ok (.getfield 53, 3) := by decide +kernel
theorem dX2_takeAway_58 : decode cX2_takeAway 58 = .ok (.bipush 32, 2) := by decide +kernel
theorem dX2_takeAway_60 : decode cX2_takeAway 60 = .ok (.invokevirtual 82, 3) := by decide +kernel
theorem dX2_takeAway_63 : decode cX2_takeAway 63 = .ok (.aload_n 0, 1) := by decide +kernel
theorem dX2_takeAway_64 : decode cX2_takeAway 64 = .ok (.getfield 53, 3) := by decide +kernel
theorem dX2_takeAway_67 : decode cX2_takeAway 67 = .ok (.bipush 8, 2) := by decide +kernel
theorem dX2_takeAway_69 : decode cX2_takeAway 69 = .ok (.invokevirtual 82, 3) := by decide +kernel
theorem dX2_takeAway_72 : decode cX2_takeAway 72 = .ok (.iinc 4 1, 3) := by decide +kernel
theorem dX2_takeAway_75 : decode cX2_takeAway 75 = .ok (.goto (-36), 3) := by decide +kernel
theorem dX2_takeAway_78 : decode cX2_takeAway 78 = .ok (.aload_n 0, 1) := by decide +kernel
theorem dX2_takeAway_79 : decode cX2_takeAway 79 = .ok (.invokevirtual 235, 3) := by decide +kernel
theorem dX2_takeAway_82 : decode cX2_takeAway 82 = .ok (.iinc 2 1, 3) := by decide +kernel
theorem dX2_takeAway_85 : decode cX2_takeAway 85 = .ok (.goto (-83), 3) := by decide +kernel
theorem dX2_takeAway_88 : decode cX2_takeAway 88 = .ok (.aload_n 0, 1) := by decide +kernel
theorem dX2_takeAway_89 : decode cX2_takeAway 89 = .ok (.invokevirtual 125, 3) := by decide +kernel
theorem dX2_takeAway_92 : decode cX2_takeAway 92 = .ok (.return_, 1) := by decide +kernel
set_option maxRecDepth 20000 in
theorem ggX2_reprint_X2_draftForm : GoodIn wsX2_reprint wsX2_draftForm := goodIn_r _ [7, 1, 8, 9, 10, 11, 12, 13, 14, 15, 16, 6, 17, 18, 19, 20, 21, 22, 23, 24, 25, 26, 59, 60, 61, 62, 63, 64, 65, 66, 67, 68, 69, 70, 71, 72, 73, 77, 78, 79] (by decide +kernel) (by decide +kernel)
set_option maxRecDepth 20000 in
theorem gX2_reprint_X2_draftForm : GoodIn wsX2_reprint (wsV RX2 232 RX2 yX2_draftForm wsX2_draftForm) := goodIn_app (goodIn_of _ (by decide +kernel)) ggX2_reprint_X2_draftForm
set_option maxRecDepth 20000 in
theorem ggX2_reprint_X3_add : GoodIn wsX2_reprint wsX3_add := goodIn_r _ [24, 13, 25, 26, 77, 78, 79] (by decide +kernel) (by decide +kernel)
set_option maxRecDepth 20000 in
theorem gX2_reprint_X3_add : GoodIn wsX2_reprint (wsV RX2 82 RX3 yX3_add wsX3_add) := goodIn_app (goodIn_of _ (by decide +kernel)) ggX2_reprint_X3_add
set_option maxRecDepth 20000 in
theorem ggX2_reprint_X3_at : GoodIn wsX2_reprint wsX3_at := goodIn_r _ [30, 13, 26, 25, 77, 78, 79] (by decide +kernel) (by decide +kernel)
set_option maxRecDepth 20000 in
theorem gX2_reprint_X3_at : GoodIn wsX2_reprint (wsV RX2 268 RX3 yX3_at wsX3_at) := goodIn_app (goodIn_of _ (by decide +kernel)) ggX2_reprint_X3_at
set_option maxRecDepth 20000 in
theorem ggX2_reprint_X2_addForm : GoodIn wsX2_reprint wsX2_addForm := goodIn_r _ [17, 1, 18, 19, 6, 20, 21, 22, 23, 11, 24, 13, 25, 26, 59, 60, 61, 62, 63, 64, 65, 66, 67, 68, 69, 70, 71, 72, 73, 77, 78, 79] (by decide +kernel) (by decide +kernel)
set_option maxRecDepth 20000 in
theorem gX2_reprint_X2_addForm : GoodIn wsX2_reprint (wsV RX2 272 RX2 yX2_addForm wsX2_addForm) := goodIn_app (goodIn_of _ (by decide +kernel)) ggX2_reprint_X2_addForm
set_option maxRecDepth 20000 in
theorem ggX2_reprint_X2_echo : GoodIn wsX2_reprint wsX2_echo := goodIn_r _ [34, 35, 1, 36, 37, 38, 39, 6, 40, 41, 42, 43, 44, 45, 46, 47, 48, 49, 50, 51, 11, 52, 25, 13, 53, 28, 29, 30, 26, 54, 22, 23, 24, 55, 56, 57, 58, 59, 60, 61, 62, 63, 64, 65, 66, 67, 68, 69, 70, 71, 72, 73, 77, 78, 79, 80, 81, 82, 83, 84] (by decide +kernel) (by decide +kernel)
set_option maxRecDepth 20000 in
theorem gX2_reprint_X2_echo : GoodIn wsX2_reprint (wsV RX2 235 RX2 yX2_echo wsX2_echo) := goodIn_app (goodIn_of _ (by decide +kernel)) ggX2_reprint_X2_echo
theorem dX2_reprint_0 : decode cX2_reprint 0 = .ok (.aload_n 0, 1) := by decide +kernel
theorem dX2_reprint_1 : decode cX2_reprint 1 = .ok (.iload_n 1, 1) := by decide +kernel
theorem dX2_reprint_2 : decode cX2_reprint 2 = .ok (.invokevirtual 232, 3) := by decide +kernel
theorem dX2_reprint_5 : decode cX2_reprint 5 = .ok (.aload_n 0, 1) := by decide +kernel
theorem dX2_reprint_6 : decode cX2_reprint 6 = .ok (.getfield 53, 3) := by decide +kernel
theorem dX2_reprint_9 : decode cX2_reprint 9 = .ok (.bipush 13, 2) := by decide +kernel
theorem dX2_reprint_11 : decode cX2_reprint 11 = .ok (.invokevirtual 82, 3) := by decide +kernel
theorem dX2_reprint_14 : decode cX2_reprint 14 = .ok (.aload_n 0, 1) := by decide +kernel
theorem dX2_reprint_15 : decode cX2_reprint 15 = .ok (.getfield 53, 3) := by decide +kernel
theorem dX2_reprint_18 : decode cX2_reprint 18 = .ok (.bipush 10, 2) := by decide +kernel
theorem dX2_reprint_20 : decode cX2_reprint 20 = .ok (.invokevirtual 82, 3) := by decide +kernel
theorem dX2_reprint_23 : decode cX2_reprint 23 = .ok (.aload_n 0, 1) := by decide +kernel
theorem dX2_reprint_24 : decode cX2_reprint 24 = .ok (.getfield 35, 3) := by decide +kernel
theorem dX2_reprint_27 : decode cX2_reprint 27 = .ok (.getfield 119, 3) := by decide +kernel
theorem dX2_reprint_30 : decode cX2_reprint 30 = .ok (.istore_n 2, 1) := by decide +kernel
theorem dX2_reprint_31 : decode cX2_reprint 31 = .ok (.iload_n 2, 1) := by decide +kernel
theorem dX2_reprint_32 : decode cX2_reprint 32 = .ok (.aload_n 0, 1) := by decide +kernel
theorem dX2_reprint_33 : decode cX2_reprint 33 = .ok (.getfield 35, 3) := by decide +kernel
theorem dX2_reprint_36 : decode cX2_reprint 36 = .ok (.getfield 144, 3) := by decide +kernel
theorem dX2_reprint_39 : decode cX2_reprint 39 = .ok (.getfield 147, 3) := by decide +kernel
theorem dX2_reprint_42 : decode cX2_reprint 42 = .ok (.if_icmp .ge 24, 3) := by decide +kernel
theorem dX2_reprint_45 : decode cX2_reprint 45 = .ok (.aload_n 0, 1) := by decide +kernel
theorem dX2_reprint_46 : decode cX2_reprint 46 = .ok (.aload_n 0, 1) := by decide +kernel
theorem dX2_reprint_47 : decode cX2_reprint 47 = .ok (.getfield 35, 3) := by decide +kernel
theorem dX2_reprint_50 : decode cX2_reprint 50 = .ok (.getfield 144, 3) := by decide +kernel
theorem dX2_reprint_53 : decode cX2_reprint 53 = .ok (.iload_n 2, 1) := by decide +kernel
theorem dX2_reprint_54 : decode cX2_reprint 54 = .ok (.invokevirtual 268, 3) := by decide +kernel
theorem dX2_reprint_57 : decode cX2_reprint 57 = .ok (.invokevirtual 272, 3) := by decide +kernel
theorem dX2_reprint_60 : decode cX2_reprint 60 = .ok (.iinc 2 1, 3) := by decide +kernel
theorem dX2_reprint_63 : decode cX2_reprint 63 = .ok (.goto (-32), 3) := by decide +kernel
theorem dX2_reprint_66 : decode cX2_reprint 66 = .ok (.aload_n 0, 1) := by decide +kernel
theorem dX2_reprint_67 : decode cX2_reprint 67 = .ok (.invokevirtual 235, 3) := by decide +kernel
theorem dX2_reprint_70 : decode cX2_reprint 70 = .ok (.return_, 1) := by decide +kernel
set_option maxRecDepth 20000 in
theorem ggX2_draftForm_X3_empty : GoodIn wsX2_draftForm wsX3_empty := goodIn_r _ [6, 7, 37, 38, 39] (by decide +kernel) (by decide +kernel)
set_option maxRecDepth 20000 in
theorem gX2_draftForm_X3_empty : GoodIn wsX2_draftForm (wsV RX2 134 RX3 yX3_empty wsX3_empty) := goodIn_app (goodIn_of _ (by decide +kernel)) ggX2_draftForm_X3_empty
set_option maxRecDepth 20000 in
theorem ggX2_draftForm_X2_addForm : GoodIn wsX2_draftForm wsX2_addForm := goodIn_r _ [12, 1, 13, 14, 11, 15, 16, 17, 18, 5, 19, 7, 20, 21, 22, 23, 24, 25, 26, 27, 28, 29, 30, 31, 32, 33, 34, 35, 36, 37, 38, 39] (by decide +kernel) (by decide +kernel)
set_option maxRecDepth 20000 in
theorem gX2_draftForm_X2_addForm : GoodIn wsX2_draftForm (wsV RX2 272 RX2 yX2_addForm wsX2_addForm) := goodIn_app (goodIn_of _ (by decide +kernel)) ggX2_draftForm_X2_addForm
theorem dX2_draftForm_0 : decode cX2_draftForm 0 = .ok (.aload_n 0, 1) := by decide +kernel
theorem dX2_draftForm_1 : decode cX2_draftForm 1 = .ok (.getfield 53, 3) := by decide +kernel
theorem dX2_draftForm_4 : decode cX2_draftForm 4 = .ok (.invokevirtual 134, 3) := by decide +kernel
theorem dX2_draftForm_7 : decode cX2_draftForm 7 = .ok (.aload_n 0, 1) := by decide +kernel
theorem dX2_draftForm_8 : decode cX2_draftForm 8 = .ok (.iload_n 1, 1) := by decide +kernel
theorem dX2_draftForm_9 : decode cX2_draftForm 9 = .ok (.invokevirtual 272, 3) := by decide +kernel
theorem dX2_draftForm_12 : decode cX2_draftForm 12 = .ok (.return_, 1) := by decide +kernel
set_option maxRecDepth 20000 in
theorem ggX2_draftNewline_X3_empty : GoodIn wsX2_draftNewline wsX3_empty := goodIn_r _ [6, 7, 29, 30, 31] (by decide +kernel) (by decide +kernel)
set_option maxRecDepth 20000 in
theorem gX2_draftNewline_X3_empty : GoodIn wsX2_draftNewline (wsV RX2 134 RX3 yX3_empty wsX3_empty) := goodIn_app (goodIn_of _ (by decide +kernel)) ggX2_draftNewline_X3_empty
set_option maxRecDepth 20000 in
theorem ggX2_draftNewline_X3_add : GoodIn wsX2_draftNewline wsX3_add := goodIn_r _ [11, 7, 12, 13, 29, 30, 31] (by decide +kernel) (by decide +kernel)
set_option maxRecDepth 20000 in
theorem gX2_draftNewline_X3_add : GoodIn wsX2_draftNewline (wsV RX2 82 RX3 yX3_add wsX3_add) := goodIn_app (goodIn_of _ (by decide +kernel)) ggX2_draftNewline_X3_add
theorem dX2_draftNewline_0 : decode cX2_draftNewline 0 = .ok (.aload_n 0, 1) := by decide +kernel
theorem dX2_draftNewline_1 : decode cX2_draftNewline 1 = .ok (.getfield 53, 3) := by decide +kernel
theorem dX2_draftNewline_4 : decode cX2_draftNewline 4 = .ok (.invokevirtual 134, 3) := by decide +kernel
theorem dX2_draftNewline_7 : decode cX2_draftNewline 7 = .ok (.aload_n 0, 1) := by decide +kernel
theorem dX2_draftNewline_8 : decode cX2_draftNewline 8 = .ok (.getfield 53, 3) := by decide +kernel
theorem dX2_draftNewline_11 : decode cX2_draftNewline 11 = .ok (.bipush 13, 2) := by decide +kernel
theorem dX2_draftNewline_13 : decode cX2_draftNewline 13 = .ok (.invokevirtual 82, 3) := by decide +kernel
theorem dX2_draftNewline_16 : decode cX2_draftNewline 16 = .ok (.aload_n 0, 1) := by decide +kernel
theorem dX2_draftNewline_17 : decode cX2_draftNewline 17 = .ok (.getfield 53, 3) := by decide +kernel
theorem dX2_draftNewline_20 : decode cX2_draftNewline 20 = .ok (.bipush 10, 2) := by decide +kernel
theorem dX2_draftNewline_22 : decode cX2_draftNewline 22 = .ok (.invokevirtual 82, 3) := by decide +kernel
theorem dX2_draftNewline_25 : decode cX2_draftNewline 25 = .ok (.return_, 1) := by decide +kernel
set_option maxRecDepth 20000 in
theorem ggX2_addForm_X2_isPlain : GoodIn wsX2_addForm wsX2_isPlain := goodIn_r _ [5] (by decide +kernel) (by decide +kernel)
set_option maxRecDepth 20000 in
theorem gX2_addForm_X2_isPlain : GoodIn wsX2_addForm (va_wsS RX2 265 yX2_isPlain wsX2_isPlain) := goodIn_app (goodIn_of _ (by decide +kernel)) ggX2_addForm_X2_isPlain
set_option maxRecDepth 20000 in
theorem ggX2_addForm_X3_add : GoodIn wsX2_addForm wsX3_add := goodIn_r _ [10, 11, 12, 13, 29, 30, 31] (by decide +kernel) (by decide +kernel)
set_option maxRecDepth 20000 in
theorem gX2_addForm_X3_add : GoodIn wsX2_addForm (wsV RX2 82 RX3 yX3_add wsX3_add) := goodIn_app (goodIn_of _ (by decide +kernel)) ggX2_addForm_X3_add
theorem dX2_addForm_0 : decode cX2_addForm 0 = .ok (.iload_n 1, 1) := by decide +kernel
theorem dX2_addForm_1 : decode cX2_addForm 1 = .ok (.invokestatic 265, 3) := by decide +kernel
theorem dX2_addForm_4 : decode cX2_addForm 4 = .ok (.ifCond .eq 14, 3) := by decide +kernel
theorem dX2_addForm_7 : decode cX2_addForm 7 = .ok (.aload_n 0, 1) := by decide +kernel
theorem dX2_addForm_8 : decode cX2_addForm 8 = .ok (.getfield 53, 3) := by decide +kernel
theorem dX2_addForm_11 : decode cX2_addForm 11 = .ok (.iload_n 1, 1) := by decide +kernel
theorem dX2_addForm_12 : decode cX2_addForm 12 = .ok (.invokevirtual 82, 3) := by decide +kernel
theorem dX2_addForm_15 : decode cX2_addForm 15 = .ok (.goto 34, 3) := by decide +kernel
theorem dX2_addForm_18 : decode cX2_addForm 18 = .ok (.aload_n 0, 1) := by decide +kernel
theorem dX2_addForm_19 : decode cX2_addForm 19 = .ok (.getfield 53, 3) := by decide +kernel
theorem dX2_addForm_22 : decode cX2_addForm 22 = .ok (.bipush 94, 2) := by decide +kernel
theorem dX2_addForm_24 : decode cX2_addForm 24 = .ok (.invokevirtual 82, 3) := by decide +kernel
theorem dX2_addForm_27 : decode cX2_addForm 27 = .ok (.aload_n 0, 1) := by decide +kernel
theorem dX2_addForm_28 : decode cX2_addForm 28 = .ok (.getfield 53, 3) := by decide +kernel
theorem dX2_addForm_31 : decode cX2_addForm 31 = .ok (.iload_n 1, 1) := by decide +kernel
theorem dX2_addForm_32 : decode cX2_addForm 32 = .ok (.bipush 127, 2) := by decide +kernel
theorem dX2_addForm_34 : decode cX2_addForm 34 = .ok (.if_icmp .ne 8, 3) := by decide +kernel
theorem dX2_addForm_37 : decode cX2_addForm 37 = .ok (.bipush 63, 2) := by decide +kernel
theorem dX2_addForm_39 : decode cX2_addForm 39 = .ok (.goto 7, 3) := by decide +kernel
theorem dX2_addForm_42 : decode cX2_addForm 42 = .ok (.iload_n 1, 1) := by decide +kernel
theorem dX2_addForm_43 : decode cX2_addForm 43 = .ok (.bipush 64, 2) := by decide +kernel
theorem dX2_addForm_45 : decode cX2_addForm 45 = .ok (.iadd, 1) := by decide +kernel
theorem dX2_addForm_46 : decode cX2_addForm 46 = .ok (.invokevirtual 82, 3) := by decide +kernel
theorem dX2_addForm_49 : decode cX2_addForm 49 = .ok (.return_, 1) := by decide +kernel
theorem dX2_isPlain_0 : decode cX2_isPlain 0 = .ok (.iload_n 0, 1) := by decide +kernel
theorem dX2_isPlain_1 : decode cX2_isPlain 1 = .ok (.bipush 32, 2) := by decide +kernel
theorem dX2_isPlain_3 : decode cX2_isPlain 3 = .ok (.if_icmp .lt 13, 3) := by decide +kernel
theorem dX2_isPlain_6 : decode cX2_isPlain 6 = .ok (.iload_n 0, 1) := by decide +kernel
theorem dX2_isPlain_7 : decode cX2_isPlain 7 = .ok (.bipush 127, 2) := by decide +kernel
theorem dX2_isPlain_9 : decode cX2_isPlain 9 = .ok (.if_icmp .eq 7, 3) := by decide +kernel
theorem dX2_isPlain_12 : decode cX2_isPlain 12 = .ok (.iconst 1, 1) := by decide +kernel
theorem dX2_isPlain_13 : decode cX2_isPlain 13 = .ok (.goto 4, 3) := by decide +kernel
theorem dX2_isPlain_16 : decode cX2_isPlain 16 = .ok (.iconst 0, 1) := by decide +kernel
theorem dX2_isPlain_17 : decode cX2_isPlain 17 = .ok (.ireturn, 1) := by decide +kernel
set_option maxRecDepth 20000 in
theorem ggX2_echo_X2_isOn : GoodIn wsX2_echo wsX2_isOn := goodIn_r _ [8, 9, 37, 38, 39, 40, 41, 42, 43, 44, 45, 46, 47, 48, 49, 50, 51] (by decide +kernel) (by decide +kernel)
set_option maxRecDepth 20000 in
theorem gX2_echo_X2_isOn : GoodIn wsX2_echo (wsV RX2 186 RX2 yX2_isOn wsX2_isOn) := goodIn_app (goodIn_of _ (by decide +kernel)) ggX2_echo_X2_isOn
set_option maxRecDepth 20000 in
theorem ggX2_echo_X1_accept : GoodIn wsX2_echo wsX1_accept := goodIn_r _ [14, 15, 16, 17, 18, 19, 20, 21, 22, 23, 24, 25, 26, 27, 28, 29, 30, 31, 32, 33, 34, 35, 13, 36, 55, 56, 57, 58, 59, 52, 53, 54] (by decide +kernel) (by decide +kernel)
set_option maxRecDepth 20000 in
theorem gX2_echo_X1_accept : GoodIn wsX2_echo (wsV RX2 275 RX1 yX1_accept wsX1_accept) := goodIn_app (goodIn_of _ (by decide +kernel)) ggX2_echo_X1_accept
theorem dX2_echo_0 : decode cX2_echo 0 = .ok (.aload_n 0, 1) := by decide +kernel
theorem dX2_echo_1 : decode cX2_echo 1 = .ok (.iconst 1, 1) := by decide +kernel
theorem dX2_echo_2 : decode cX2_echo 2 = .ok (.invokevirtual 186, 3) := by decide +kernel
theorem dX2_echo_5 : decode cX2_echo 5 = .ok (.ifCond .eq 33, 3) := by decide +kernel
theorem dX2_echo_8 : decode cX2_echo 8 = .ok (.aload_n 0, 1) := by decide +kernel
theorem dX2_echo_9 : decode cX2_echo 9 = .ok (.getfield 42, 3) := by decide +kernel
theorem dX2_echo_12 : decode cX2_echo 12 = .ok (.aload_n 0, 1) := by decide +kernel
theorem dX2_echo_13 : decode cX2_echo 13 = .ok (.getfield 53, 3) := by decide +kernel
theorem dX2_echo_16 : decode cX2_echo 16 = .ok (.invokevirtual 275, 3) := by decide +kernel
theorem dX2_echo_19 : decode cX2_echo 19 = .ok (.ifCond .eq 19, 3) := by decide +kernel
theorem dX2_echo_22 : decode cX2_echo 22 = .ok (.aload_n 0, 1) := by decide +kernel
theorem dX2_echo_23 : decode cX2_echo 23 = .ok (.getfield 60, 3) := by decide +kernel
theorem dX2_echo_26 : decode cX2_echo 26 = .ok (.iconst 3, 1) := by decide +kernel
theorem dX2_echo_27 : decode cX2_echo 27 = .ok (.dup2, 1) := by decide +kernel
theorem dX2_echo_28 : decode cX2_echo 28 = .ok (.iaload, 1) := by decide +kernel
theorem dX2_echo_29 : decode cX2_echo 29 = .ok (.aload_n 0, 1) := by decide +kernel
theorem dX2_echo_30 : decode cX2_echo 30 = .ok (.getfield 53, 3) := by decide +kernel
theorem dX2_echo_33 : decode cX2_echo 33 = .ok (.getfield 147, 3) := by decide +kernel
theorem dX2_echo_36 : decode cX2_echo 36 = .ok (.iadd, 1) := by decide +kernel
theorem dX2_echo_37 : decode cX2_echo 37 = .ok (.iastore, 1) := by decide +kernel
theorem dX2_echo_38 : decode cX2_echo 38 = .ok (.return_, 1) := by decide +kernel
theorem dX3_init_0 : decode cX3_init 0 = .ok (.aload_n 0, 1) := by decide +kernel
theorem dX3_init_1 : decode cX3_init 1 = .ok (.invokespecial 3, 3) := by decide +kernel
theorem dX3_init_4 : decode cX3_init 4 = .ok (.aload_n 0, 1) := by decide +kernel
theorem dX3_init_5 : decode cX3_init 5 = .ok (.iload_n 1, 1) := by decide +kernel
theorem dX3_init_6 : decode cX3_init 6 = .ok (.newarray .int, 2) := by decide +kernel
theorem dX3_init_8 : decode cX3_init 8 = .ok (.putfield 9, 3) := by decide +kernel
theorem dX3_init_11 : decode cX3_init 11 = .ok (.return_, 1) := by decide +kernel
theorem dX3_fits_0 : decode cX3_fits 0 = .ok (.iload_n 1, 1) := by decide +kernel
theorem dX3_fits_1 : decode cX3_fits 1 = .ok (.aload_n 0, 1) := by decide +kernel
theorem dX3_fits_2 : decode cX3_fits 2 = .ok (.getfield 9, 3) := by decide +kernel
theorem dX3_fits_5 : decode cX3_fits 5 = .ok (.arraylength, 1) := by decide +kernel
theorem dX3_fits_6 : decode cX3_fits 6 = .ok (.aload_n 0, 1) := by decide +kernel
theorem dX3_fits_7 : decode cX3_fits 7 = .ok (.getfield 15, 3) := by decide +kernel
theorem dX3_fits_10 : decode cX3_fits 10 = .ok (.isub, 1) := by decide +kernel
theorem dX3_fits_11 : decode cX3_fits 11 = .ok (.if_icmp .gt 7, 3) := by decide +kernel
theorem dX3_fits_14 : decode cX3_fits 14 = .ok (.iconst 1, 1) := by decide +kernel
theorem dX3_fits_15 : decode cX3_fits 15 = .ok (.goto 4, 3) := by decide +kernel
theorem dX3_fits_18 : decode cX3_fits 18 = .ok (.iconst 0, 1) := by decide +kernel
theorem dX3_fits_19 : decode cX3_fits 19 = .ok (.ireturn, 1) := by decide +kernel
theorem dX3_add_0 : decode cX3_add 0 = .ok (.aload_n 0, 1) := by decide +kernel
theorem dX3_add_1 : decode cX3_add 1 = .ok (.getfield 15, 3) := by decide +kernel
theorem dX3_add_4 : decode cX3_add 4 = .ok (.aload_n 0, 1) := by decide +kernel
theorem dX3_add_5 : decode cX3_add 5 = .ok (.getfield 9, 3) := by decide +kernel
theorem dX3_add_8 : decode cX3_add 8 = .ok (.arraylength, 1) := by decide +kernel
theorem dX3_add_9 : decode cX3_add 9 = .ok (.if_icmp .ge 49, 3) := by decide +kernel
theorem dX3_add_12 : decode cX3_add 12 = .ok (.aload_n 0, 1) := by decide +kernel
theorem dX3_add_13 : decode cX3_add 13 = .ok (.getfield 19, 3) := by decide +kernel
theorem dX3_add_16 : decode cX3_add 16 = .ok (.aload_n 0, 1) := by decide +kernel
theorem dX3_add_17 : decode cX3_add 17 = .ok (.getfield 15, 3) := by decide +kernel
theorem dX3_add_20 : decode cX3_add 20 = .ok (.iadd, 1) := by decide +kernel
theorem dX3_add_21 : decode cX3_add 21 = .ok (.istore_n 2, 1) := by decide +kernel
theorem dX3_add_22 : decode cX3_add 22 = .ok (.aload_n 0, 1) := by decide +kernel
theorem dX3_add_23 : decode cX3_add 23 = .ok (.getfield 9, 3) := by decide +kernel
theorem dX3_add_26 : decode cX3_add 26 = .ok (.iload_n 2, 1) := by decide +kernel
theorem dX3_add_27 : decode cX3_add 27 = .ok (.aload_n 0, 1) := by decide +kernel
theorem dX3_add_28 : decode cX3_add 28 = .ok (.getfield 9, 3) := by decide +kernel
theorem dX3_add_31 : decode cX3_add 31 = .ok (.arraylength, 1) := by decide +kernel
theorem dX3_add_32 : decode cX3_add 32 = .ok (.if_icmp .ge 7, 3) := by decide +kernel
theorem dX3_add_35 : decode cX3_add 35 = .ok (.iload_n 2, 1) := by decide +kernel
theorem dX3_add_36 : decode cX3_add 36 = .ok (.goto 10, 3) := by decide +kernel
theorem dX3_add_39 : decode cX3_add 39 = .ok (.iload_n 2, 1) := by decide +kernel
theorem dX3_add_40 : decode cX3_add 40 = .ok (.aload_n 0, 1) := by decide +kernel
theorem dX3_add_41 : decode cX3_add 41 = .ok (.getfield 9, 3) := by decide +kernel
theorem dX3_add_44 : decode cX3_add 44 = .ok (.arraylength, 1) := by decide +kernel
theorem dX3_add_45 : decode cX3_add 45 = .ok (.isub, 1) := by decide +kernel
theorem dX3_add_46 : decode cX3_add 46 = .ok (.iload_n 1, 1) := by decide +kernel
theorem dX3_add_47 : decode cX3_add 47 = .ok (.iastore, 1) := by decide +kernel
theorem dX3_add_48 : decode cX3_add 48 = .ok (.aload_n 0, 1) := by decide +kernel
theorem dX3_add_49 : decode cX3_add 49 = .ok (.dup, 1) := by decide +kernel
theorem dX3_add_50 : decode cX3_add 50 = .ok (.getfield 15, 3) := by decide +kernel
theorem dX3_add_53 : decode cX3_add 53 = .ok (.iconst 1, 1) := by decide +kernel
theorem dX3_add_54 : decode cX3_add 54 = .ok (.iadd, 1) := by decide +kernel
theorem dX3_add_55 : decode cX3_add 55 = .ok (.putfield 15, 3) := by decide +kernel
theorem dX3_add_58 : decode cX3_add 58 = .ok (.return_, 1) := by decide +kernel
theorem dX3_at_0 : decode cX3_at 0 = .ok (.iload_n 1, 1) := by decide +kernel
theorem dX3_at_1 : decode cX3_at 1 = .ok (.ifCond .lt 11, 3) := by decide +kernel
theorem dX3_at_4 : decode cX3_at 4 = .ok (.iload_n 1, 1) := by decide +kernel
theorem dX3_at_5 : decode cX3_at 5 = .ok (.aload_n 0, 1) := by decide +kernel
theorem dX3_at_6 : decode cX3_at 6 = .ok (.getfield 15, 3) := by decide +kernel
theorem dX3_at_9 : decode cX3_at 9 = .ok (.if_icmp .lt 5, 3) := by decide +kernel
theorem dX3_at_12 : decode cX3_at 12 = .ok (.iconst (-1), 1) := by decide +kernel
theorem dX3_at_13 : decode cX3_at 13 = .ok (.ireturn, 1) := by decide +kernel
theorem dX3_at_14 : decode cX3_at 14 = .ok (.aload_n 0, 1) := by decide +kernel
theorem dX3_at_15 : decode cX3_at 15 = .ok (.getfield 19, 3) := by decide +kernel
theorem dX3_at_18 : decode cX3_at 18 = .ok (.iload_n 1, 1) := by decide +kernel
theorem dX3_at_19 : decode cX3_at 19 = .ok (.iadd, 1) := by decide +kernel
theorem dX3_at_20 : decode cX3_at 20 = .ok (.istore_n 2, 1) := by decide +kernel
theorem dX3_at_21 : decode cX3_at 21 = .ok (.aload_n 0, 1) := by decide +kernel
theorem dX3_at_22 : decode cX3_at 22 = .ok (.getfield 9, 3) := by decide +kernel
theorem dX3_at_25 : decode cX3_at 25 = .ok (.iload_n 2, 1) := by decide +kernel
theorem dX3_at_26 : decode cX3_at 26 = .ok (.aload_n 0, 1) := by decide +kernel
theorem dX3_at_27 : decode cX3_at 27 = .ok (.getfield 9, 3) := by decide +kernel
theorem dX3_at_30 : decode cX3_at 30 = .ok (.arraylength, 1) := by decide +kernel
theorem dX3_at_31 : decode cX3_at 31 = .ok (.if_icmp .ge 7, 3) := by decide +kernel
theorem dX3_at_34 : decode cX3_at 34 = .ok (.iload_n 2, 1) := by decide +kernel
theorem dX3_at_35 : decode cX3_at 35 = .ok (.goto 10, 3) := by decide +kernel
theorem dX3_at_38 : decode cX3_at 38 = .ok (.iload_n 2, 1) := by decide +kernel
theorem dX3_at_39 : decode cX3_at 39 = .ok (.aload_n 0, 1) := by decide +kernel
theorem dX3_at_40 : decode cX3_at 40 = .ok (.getfield 9, 3) := by decide +kernel
theorem dX3_at_43 : decode cX3_at 43 = .ok (.arraylength, 1) := by decide +kernel
theorem dX3_at_44 : decode cX3_at 44 = .ok (.isub, 1) := by decide +kernel
theorem dX3_at_45 : decode cX3_at 45 = .ok (.iaload, 1) := by decide +kernel
theorem dX3_at_46 : decode cX3_at 46 = .ok (.ireturn, 1) := by decide +kernel
theorem dX3_takeFirst_0 : decode cX3_takeFirst 0 = .ok (.aload_n 0, 1) := by decide +kernel
theorem dX3_takeFirst_1 : decode cX3_takeFirst 1 = .ok (.getfield 15, 3) := by decide +kernel
theorem dX3_takeFirst_4 : decode cX3_takeFirst 4 = .ok (.ifCond .ne 5, 3) := by decide +kernel
theorem dX3_takeFirst_7 : decode cX3_takeFirst 7 = .ok (.iconst (-1), 1) := by decide +kernel
theorem dX3_takeFirst_8 : decode cX3_takeFirst 8 = .ok (.ireturn, 1) := by decide +kernel
theorem dX3_takeFirst_9 : decode cX3_takeFirst 9 = .ok (.aload_n 0, 1) := by decide +kernel
theorem dX3_takeFirst_10 : decode cX3_takeFirst 10 = .ok (.getfield 9, 3) := by decide +kernel
theorem dX3_takeFirst_13 : decode cX3_takeFirst 13 = .ok (.aload_n 0, 1) := by decide +kernel
theorem dX3_takeFirst_14 : decode cX3_takeFirst 14 = .ok (.getfield 19, 3) := by decide +kernel
theorem dX3_takeFirst_17 : decode cX3_takeFirst 17 = .ok (.iaload, 1) := by decide +kernel
theorem dX3_takeFirst_18 : decode cX3_takeFirst 18 = .ok (.istore_n 1, 1) := by decide +kernel
theorem dX3_takeFirst_19 : decode cX3_takeFirst 19 = .ok (.aload_n 0, 1) := by decide +kernel
theorem dX3_takeFirst_20 : decode cX3_takeFirst 20 = .ok (.aload_n 0, 1) := by decide +kernel
theorem dX3_takeFirst_21 : decode cX3_takeFirst 21 = .ok (.getfield 19, 3) := by decide +kernel
theorem dX3_takeFirst_24 : decode cX3_takeFirst 24 = .ok (.iconst 1, 1) := by decide +kernel
theorem dX3_takeFirst_25 : decode cX3_takeFirst 25 = .ok (.iadd, 1) := by decide +kernel
theorem dX3_takeFirst_26 : decode cX3_takeFirst 26 = .ok (.aload_n 0, 1) := by decide +kernel
theorem dX3_takeFirst_27 : decode cX3_takeFirst 27 = .ok (.getfield 9, 3) := by decide +kernel
theorem dX3_takeFirst_30 : decode cX3_takeFirst 30 = .ok (.arraylength, 1) := by decide +kernel
theorem dX3_takeFirst_31 : decode cX3_takeFirst 31 = .ok (.if_icmp .ge 12, 3) := by decide +kernel
theorem dX3_takeFirst_34 : decode cX3_takeFirst 34 = .ok (.aload_n 0, 1) := by decide +kernel
theorem dX3_takeFirst_35 : decode cX3_takeFirst 35 = .ok (.getfield 19, 3) := by decide +kernel
theorem dX3_takeFirst_38 : decode cX3_takeFirst 38 = .ok (.iconst 1, 1) := by decide +kernel
theorem dX3_takeFirst_39 : decode cX3_takeFirst 39 = .ok (.iadd, 1) := by decide +kernel
theorem dX3_takeFirst_40 : decode cX3_takeFirst 40 = .ok (.goto 4, 3) := by decide +kernel
theorem dX3_takeFirst_43 : decode cX3_takeFirst 43 = .ok (.iconst 0, 1) := by decide +kernel
theorem dX3_takeFirst_44 : decode cX3_takeFirst 44 = .ok (.putfield 19, 3) := by decide +kernel
theorem dX3_takeFirst_47 : decode cX3_takeFirst 47 = .ok (.aload_n 0, 1) := by decide +kernel
theorem dX3_takeFirst_48 : decode cX3_takeFirst 48 = .ok (.dup, 1) := by decide +kernel
theorem dX3_takeFirst_49 : decode cX3_takeFirst 49 = .ok (.getfield 15, 3) := by decide +kernel
theorem dX3_takeFirst_52 : decode cX3_takeFirst 52 = .ok (.iconst 1, 1) := by decide +kernel
theorem dX3_takeFirst_53 : decode cX3_takeFirst 53 = .ok (.isub, 1) := by decide +kernel
theorem dX3_takeFirst_54 : decode cX3_takeFirst 54 = .ok (.putfield 15, 3) := by decide +kernel
theorem dX3_takeFirst_57 : decode cX3_takeFirst 57 = .ok (.iload_n 1, 1) := by decide +kernel
theorem dX3_takeFirst_58 : decode cX3_takeFirst 58 = .ok (.ireturn, 1) := by decide +kernel
set_option maxRecDepth 20000 in
theorem ggX3_takeLast_X3_at : GoodIn wsX3_takeLast wsX3_at := goodIn_r _ [6, 1, 7, 8, 9, 10, 11] (by decide +kernel) (by decide +kernel)
set_option maxRecDepth 20000 in
theorem gX3_takeLast_X3_at : GoodIn wsX3_takeLast (wsV RX3 22 RX3 yX3_at wsX3_at) := goodIn_app (goodIn_of _ (by decide +kernel)) ggX3_takeLast_X3_at
theorem dX3_takeLast_0 : decode cX3_takeLast 0 = .ok (.aload_n 0, 1) := by decide +kernel
theorem dX3_takeLast_1 : decode cX3_takeLast 1 = .ok (.aload_n 0, 1) := by decide +kernel
theorem dX3_takeLast_2 : decode cX3_takeLast 2 = .ok (.getfield 15, 3) := by decide +kernel
theorem dX3_takeLast_5 : decode cX3_takeLast 5 = .ok (.iconst 1, 1) := by decide +kernel
theorem dX3_takeLast_6 : decode cX3_takeLast 6 = .ok (.isub, 1) := by decide +kernel
theorem dX3_takeLast_7 : decode cX3_takeLast 7 = .ok (.invokevirtual 22, 3) := by decide +kernel
theorem dX3_takeLast_10 : decode cX3_takeLast 10 = .ok (.istore_n 1, 1) := by decide +kernel
theorem dX3_takeLast_11 : decode cX3_takeLast 11 = .ok (.aload_n 0, 1) := by decide +kernel
theorem dX3_takeLast_12 : decode cX3_takeLast 12 = .ok (.getfield 15, 3) := by decide +kernel
theorem dX3_takeLast_15 : decode cX3_takeLast 15 = .ok (.ifCond .le 13, 3) := by decide +kernel
theorem dX3_takeLast_18 : decode cX3_takeLast 18 = .ok (.aload_n 0, 1) := by decide +kernel
theorem dX3_takeLast_19 : decode cX3_takeLast 19 = .ok (.dup, 1) := by decide +kernel
theorem dX3_takeLast_20 : decode cX3_takeLast 20 = .ok (.getfield 15, 3) := by decide +kernel
theorem dX3_takeLast_23 : decode cX3_takeLast 23 = .ok (.iconst 1, 1) := by decide +kernel
theorem dX3_takeLast_24 : decode cX3_takeLast 24 = .ok (.isub, 1) := by decide +kernel
theorem dX3_takeLast_25 : decode cX3_takeLast 25 = .ok (.putfield 15, 3) := by decide +kernel
theorem dX3_takeLast_28 : decode cX3_takeLast 28 = .ok (.iload_n 1, 1) := by decide +kernel
theorem dX3_takeLast_29 : decode cX3_takeLast 29 = .ok (.ireturn, 1) := by decide +kernel
theorem dX3_empty_0 : decode cX3_empty 0 = .ok (.aload_n 0, 1) := by decide +kernel
theorem dX3_empty_1 : decode cX3_empty 1 = .ok (.iconst 0, 1) := by decide +kernel
theorem dX3_empty_2 : decode cX3_empty 2 = .ok (.putfield 15, 3) := by decide +kernel
theorem dX3_empty_5 : decode cX3_empty 5 = .ok (.return_, 1) := by decide +kernel
set_option maxRecDepth 20000 in
theorem ggX4_init_X3_init : GoodIn wsX4_init wsX3_init := goodIn_r _ [10, 11, 2, 3, 12, 13, 14, 15, 16] (by decide +kernel) (by decide +kernel)
set_option maxRecDepth 20000 in
theorem gX4_init_X3_init : GoodIn wsX4_init (wsX3_init) := ggX4_init_X3_init
theorem dX4_init_0 : decode cX4_init 0 = .ok (.aload_n 0, 1) := by decide +kernel
theorem dX4_init_1 : decode cX4_init 1 = .ok (.invokespecial 3, 3) := by decide +kernel
theorem dX4_init_4 : decode cX4_init 4 = .ok (.aload_n 0, 1) := by decide +kernel
theorem dX4_init_5 : decode cX4_init 5 = .ok (.new 9, 3) := by decide +kernel
theorem dX4_init_8 : decode cX4_init 8 = .ok (.dup, 1) := by decide +kernel
theorem dX4_init_9 : decode cX4_init 9 = .ok (.bipush 65, 2) := by decide +kernel
theorem dX4_init_11 : decode cX4_init 11 = .ok (.invokespecial 11, 3) := by decide +kernel
theorem dX4_init_14 : decode cX4_init 14 = .ok (.putfield 14, 3) := by decide +kernel
theorem dX4_init_17 : decode cX4_init 17 = .ok (.return_, 1) := by decide +kernel
set_option maxRecDepth 20000 in
theorem ggX4_add_X3_fits : GoodIn wsX4_add wsX3_fits := goodIn_r _ [7, 8, 9, 18, 19, 20] (by decide +kernel) (by decide +kernel)
set_option maxRecDepth 20000 in
theorem gX4_add_X3_fits : GoodIn wsX4_add (wsV RX4 24 RX3 yX3_fits wsX3_fits) := goodIn_app (goodIn_of _ (by decide +kernel)) ggX4_add_X3_fits
set_option maxRecDepth 20000 in
theorem ggX4_add_X3_add : GoodIn wsX4_add wsX3_add := goodIn_r _ [13, 9, 8, 14, 18, 19, 20] (by decide +kernel) (by decide +kernel)
set_option maxRecDepth 20000 in
theorem gX4_add_X3_add : GoodIn wsX4_add (wsV RX4 28 RX3 yX3_add wsX3_add) := goodIn_app (goodIn_of _ (by decide +kernel)) ggX4_add_X3_add
theorem dX4_add_0 : decode cX4_add 0 = .ok (.aload_n 0, 1) := by decide +kernel
theorem dX4_add_1 : decode cX4_add 1 = .ok (.getfield 14, 3) := by decide +kernel
theorem dX4_add_4 : decode cX4_add 4 = .ok (.getfield 20, 3) := by decide +kernel
theorem dX4_add_7 : decode cX4_add 7 = .ok (.bipush 64, 2) := by decide +kernel
theorem dX4_add_9 : decode cX4_add 9 = .ok (.if_icmp .lt 7, 3) := by decide +kernel
theorem dX4_add_12 : decode cX4_add 12 = .ok (.iload_n 2, 1) := by decide +kernel
theorem dX4_add_13 : decode cX4_add 13 = .ok (.ifCond .eq 14, 3) := by decide +kernel
theorem dX4_add_16 : decode cX4_add 16 = .ok (.aload_n 0, 1) := by decide +kernel
theorem dX4_add_17 : decode cX4_add 17 = .ok (.getfield 14, 3) := by decide +kernel
theorem dX4_add_20 : decode cX4_add 20 = .ok (.iconst 1, 1) := by decide +kernel
theorem dX4_add_21 : decode cX4_add 21 = .ok (.invokevirtual 24, 3) := by decide +kernel
theorem dX4_add_24 : decode cX4_add 24 = .ok (.ifCond .ne 5, 3) := by decide +kernel
theorem dX4_add_27 : decode cX4_add 27 = .ok (.iconst 0, 1) := by decide +kernel
theorem dX4_add_28 : decode cX4_add 28 = .ok (.ireturn, 1) := by decide +kernel
theorem dX4_add_29 : decode cX4_add 29 = .ok (.aload_n 0, 1) := by decide +kernel
theorem dX4_add_30 : decode cX4_add 30 = .ok (.getfield 14, 3) := by decide +kernel
theorem dX4_add_33 : decode cX4_add 33 = .ok (.iload_n 1, 1) := by decide +kernel
theorem dX4_add_34 : decode cX4_add 34 = .ok (.invokevirtual 28, 3) := by decide +kernel
theorem dX4_add_37 : decode cX4_add 37 = .ok (.aload_n 0, 1) := by decide +kernel
theorem dX4_add_38 : decode cX4_add 38 = .ok (.iconst 0, 1) := by decide +kernel
theorem dX4_add_39 : decode cX4_add 39 = .ok (.putfield 31, 3) := by decide +kernel
theorem dX4_add_42 : decode cX4_add 42 = .ok (.iconst 1, 1) := by decide +kernel
theorem dX4_add_43 : decode cX4_add 43 = .ok (.ireturn, 1) := by decide +kernel
theorem dX4_openLine_0 : decode cX4_openLine 0 = .ok (.aload_n 0, 1) := by decide +kernel
theorem dX4_openLine_1 : decode cX4_openLine 1 = .ok (.getfield 14, 3) := by decide +kernel
theorem dX4_openLine_4 : decode cX4_openLine 4 = .ok (.getfield 20, 3) := by decide +kernel
theorem dX4_openLine_7 : decode cX4_openLine 7 = .ok (.aload_n 0, 1) := by decide +kernel
theorem dX4_openLine_8 : decode cX4_openLine 8 = .ok (.getfield 34, 3) := by decide +kernel
theorem dX4_openLine_11 : decode cX4_openLine 11 = .ok (.isub, 1) := by decide +kernel
theorem dX4_openLine_12 : decode cX4_openLine 12 = .ok (.ireturn, 1) := by decide +kernel
theorem dX4_releaseAll_0 : decode cX4_releaseAll 0 = .ok (.aload_n 0, 1) := by decide +kernel
theorem dX4_releaseAll_1 : decode cX4_releaseAll 1 = .ok (.aload_n 0, 1) := by decide +kernel
theorem dX4_releaseAll_2 : decode cX4_releaseAll 2 = .ok (.getfield 14, 3) := by decide +kernel
theorem dX4_releaseAll_5 : decode cX4_releaseAll 5 = .ok (.getfield 20, 3) := by decide +kernel
theorem dX4_releaseAll_8 : decode cX4_releaseAll 8 = .ok (.putfield 34, 3) := by decide +kernel
theorem dX4_releaseAll_11 : decode cX4_releaseAll 11 = .ok (.return_, 1) := by decide +kernel
set_option maxRecDepth 20000 in
theorem ggX4_takeReleased_X3_takeFirst : GoodIn wsX4_takeReleased wsX3_takeFirst := goodIn_r _ [7, 8, 9, 10, 14, 15, 16] (by decide +kernel) (by decide +kernel)
set_option maxRecDepth 20000 in
theorem gX4_takeReleased_X3_takeFirst : GoodIn wsX4_takeReleased (wsV RX4 37 RX3 yX3_takeFirst wsX3_takeFirst) := goodIn_app (goodIn_of _ (by decide +kernel)) ggX4_takeReleased_X3_takeFirst
theorem dX4_takeReleased_0 : decode cX4_takeReleased 0 = .ok (.aload_n 0, 1) := by decide +kernel
theorem dX4_takeReleased_1 : decode cX4_takeReleased 1 = .ok (.getfield 34, 3) := by decide +kernel
theorem dX4_takeReleased_4 : decode cX4_takeReleased 4 = .ok (.ifCond .le 13, 3) := by decide +kernel
theorem dX4_takeReleased_7 : decode cX4_takeReleased 7 = .ok (.aload_n 0, 1) := by decide +kernel
theorem dX4_takeReleased_8 : decode cX4_takeReleased 8 = .ok (.dup, 1) := by decide +kernel
theorem dX4_takeReleased_9 : decode cX4_takeReleased 9 = .ok (.getfield 34, 3) := by decide +kernel
theorem dX4_takeReleased_12 : decode cX4_takeReleased 12 = .ok (.iconst 1, 1) := by decide +kernel
theorem dX4_takeReleased_13 : decode cX4_takeReleased 13 = .ok (.isub, 1) := by decide +kernel
theorem dX4_takeReleased_14 : decode cX4_takeReleased 14 = .ok (.putfield 34, 3) := by decide +kernel
theorem dX4_takeReleased_17 : decode cX4_takeReleased 17 = .ok (.aload_n 0, 1) := by decide +kernel
theorem dX4_takeReleased_18 : decode cX4_takeReleased 18 = .ok (.getfield 14, 3) := by decide +kernel
theorem dX4_takeReleased_21 : decode cX4_takeReleased 21 = .ok (.invokevirtual 37, 3) := by decide +kernel
theorem dX4_takeReleased_24 : decode cX4_takeReleased 24 = .ok (.ireturn, 1) := by decide +kernel
set_option maxRecDepth 20000 in
theorem ggX4_empty_X3_empty : GoodIn wsX4_empty wsX3_empty := goodIn_r _ [7, 8, 12, 13, 14] (by decide +kernel) (by decide +kernel)
set_option maxRecDepth 20000 in
theorem gX4_empty_X3_empty : GoodIn wsX4_empty (wsV RX4 41 RX3 yX3_empty wsX3_empty) := goodIn_app (goodIn_of _ (by decide +kernel)) ggX4_empty_X3_empty
theorem dX4_empty_0 : decode cX4_empty 0 = .ok (.aload_n 0, 1) := by decide +kernel
theorem dX4_empty_1 : decode cX4_empty 1 = .ok (.getfield 14, 3) := by decide +kernel
theorem dX4_empty_4 : decode cX4_empty 4 = .ok (.invokevirtual 41, 3) := by decide +kernel
theorem dX4_empty_7 : decode cX4_empty 7 = .ok (.aload_n 0, 1) := by decide +kernel
theorem dX4_empty_8 : decode cX4_empty 8 = .ok (.iconst 0, 1) := by decide +kernel
theorem dX4_empty_9 : decode cX4_empty 9 = .ok (.putfield 34, 3) := by decide +kernel
theorem dX4_empty_12 : decode cX4_empty 12 = .ok (.return_, 1) := by decide +kernel
set_option maxRecDepth 20000 in
theorem ggX4_dropEndMarks_X3_takeFirst : GoodIn wsX4_dropEndMarks wsX3_takeFirst := goodIn_r _ [6, 7, 8, 9, 17, 18, 19] (by decide +kernel) (by decide +kernel)
set_option maxRecDepth 20000 in
theorem gX4_dropEndMarks_X3_takeFirst : GoodIn wsX4_dropEndMarks (wsV RX4 37 RX3 yX3_takeFirst wsX3_takeFirst) := goodIn_app (goodIn_of _ (by decide +kernel)) ggX4_dropEndMarks_X3_takeFirst
set_option maxRecDepth 20000 in
theorem ggX4_dropEndMarks_X3_add : GoodIn wsX4_dropEndMarks wsX3_add := goodIn_r _ [13, 7, 8, 9, 17, 18, 19] (by decide +kernel) (by decide +kernel)
set_option maxRecDepth 20000 in
theorem gX4_dropEndMarks_X3_add : GoodIn wsX4_dropEndMarks (wsV RX4 28 RX3 yX3_add wsX3_add) := goodIn_app (goodIn_of _ (by decide +kernel)) ggX4_dropEndMarks_X3_add
theorem dX4_dropEndMarks_0 : decode cX4_dropEndMarks 0 = .ok (.aload_n 0, 1) := by decide +kernel
theorem dX4_dropEndMarks_1 : decode cX4_dropEndMarks 1 = .ok (.getfield 14, 3) := by decide +kernel
theorem dX4_dropEndMarks_4 : decode cX4_dropEndMarks 4 = .ok (.getfield 20, 3) := by decide +kernel
theorem dX4_dropEndMarks_7 : decode cX4_dropEndMarks 7 = .ok (.istore_n 1, 1) := by decide +kernel
theorem dX4_dropEndMarks_8 : decode cX4_dropEndMarks 8 = .ok (.iconst 0, 1) := by decide +kernel
theorem dX4_dropEndMarks_9 : decode cX4_dropEndMarks 9 = .ok (.istore_n 2, 1) := by decide +kernel
theorem dX4_dropEndMarks_10 : decode cX4_dropEndMarks 10 = .ok (.iload_n 2, 1) := by decide +kernel
theorem dX4_dropEndMarks_11 : decode cX4_dropEndMarks 11 = .ok (.iload_n 1, 1) := by decide +kernel
theorem dX4_dropEndMarks_12 : decode cX4_dropEndMarks 12 = .ok (.if_icmp .ge 32, 3) := by decide +kernel
theorem dX4_dropEndMarks_15 : decode cX4_dropEndMarks 15 = .ok (.aload_n 0, 1) := by decide +kernel
theorem dX4_dropEndMarks_16 : decode cX4_dropEndMarks 16 = .ok (.getfield 14, 3) := by decide +kernel
theorem dX4_dropEndMarks_19 : decode cX4_dropEndMarks 19 = .ok (.invokevirtual 37, 3) := by decide +kernel
theorem dX4_dropEndMarks_22 : decode cX4_dropEndMarks 22 = .ok (.istore_n 3, 1) := by decide +kernel
theorem dX4_dropEndMarks_23 : decode cX4_dropEndMarks 23 = .ok (.iload_n 3, 1) := by decide +kernel
theorem dX4_dropEndMarks_24 : decode cX4_dropEndMarks 24 = .ok (.sipush 256, 3) := by decide +kernel
theorem dX4_dropEndMarks_27 : decode cX4_dropEndMarks 27 = .ok (.if_icmp .eq 11, 3) := by decide +kernel
theorem dX4_dropEndMarks_30 : decode cX4_dropEndMarks 30 = .ok (.aload_n 0, 1) := by decide +kernel
theorem dX4_dropEndMarks_31 : decode cX4_dropEndMarks 31 = .ok (.getfield 14, 3) := by decide +kernel
theorem dX4_dropEndMarks_34 : decode cX4_dropEndMarks 34 = .ok (.iload_n 3, 1) := by decide +kernel
theorem dX4_dropEndMarks_35 : decode cX4_dropEndMarks 35 = .ok (.invokevirtual 28, 3) := by decide +kernel
theorem dX4_dropEndMarks_38 : decode cX4_dropEndMarks 38 = .ok (.iinc 2 1, 3) := by decide +kernel
theorem dX4_dropEndMarks_41 : decode cX4_dropEndMarks 41 = .ok (.goto (-31), 3) := by decide +kernel
theorem dX4_dropEndMarks_44 : decode cX4_dropEndMarks 44 = .ok (.return_, 1) := by decide +kernel
set_option maxRecDepth 20000 in
theorem ggX4_lastWord_X4_openLine : GoodIn wsX4_lastWord wsX4_openLine := goodIn_r _ [6, 1, 7, 19, 20, 21, 22, 23, 24] (by decide +kernel) (by decide +kernel)
set_option maxRecDepth 20000 in
theorem gX4_lastWord_X4_openLine : GoodIn wsX4_lastWord (wsV RX4 44 RX4 yX4_openLine wsX4_openLine) := goodIn_app (goodIn_of _ (by decide +kernel)) ggX4_lastWord_X4_openLine
set_option maxRecDepth 20000 in
theorem ggX4_lastWord_X3_at : GoodIn wsX4_lastWord wsX3_at := goodIn_r _ [12, 13, 14, 15, 22, 23, 24] (by decide +kernel) (by decide +kernel)
set_option maxRecDepth 20000 in
theorem gX4_lastWord_X3_at : GoodIn wsX4_lastWord (wsV RX4 47 RX3 yX3_at wsX3_at) := goodIn_app (goodIn_of _ (by decide +kernel)) ggX4_lastWord_X3_at
set_option maxRecDepth 20000 in
theorem ggX4_lastWord_X4_isBlank : GoodIn wsX4_lastWord wsX4_isBlank := goodIn_r _ [18] (by decide +kernel) (by decide +kernel)
set_option maxRecDepth 20000 in
theorem gX4_lastWord_X4_isBlank : GoodIn wsX4_lastWord (va_wsS RX4 51 yX4_isBlank wsX4_isBlank) := goodIn_app (goodIn_of _ (by decide +kernel)) ggX4_lastWord_X4_isBlank
theorem dX4_lastWord_0 : decode cX4_lastWord 0 = .ok (.aload_n 0, 1) := by decide +kernel
theorem dX4_lastWord_1 : decode cX4_lastWord 1 = .ok (.invokevirtual 44, 3) := by decide +kernel
theorem dX4_lastWord_4 : decode cX4_lastWord 4 = .ok (.istore_n 1, 1) := by decide +kernel
theorem dX4_lastWord_5 : decode cX4_lastWord 5 = .ok (.iconst 0, 1) := by decide +kernel
theorem dX4_lastWord_6 : decode cX4_lastWord 6 = .ok (.istore_n 2, 1) := by decide +kernel
theorem dX4_lastWord_7 : decode cX4_lastWord 7 = .ok (.iload_n 2, 1) := by decide +kernel
theorem dX4_lastWord_8 : decode cX4_lastWord 8 = .ok (.iload_n 1, 1) := by decide +kernel
theorem dX4_lastWord_9 : decode cX4_lastWord 9 = .ok (.if_icmp .ge 33, 3) := by decide +kernel
theorem dX4_lastWord_12 : decode cX4_lastWord 12 = .ok (.aload_n 0, 1) := by decide +kernel
theorem dX4_lastWord_13 : decode cX4_lastWord 13 = .ok (.getfield 14, 3) := by decide +kernel
theorem dX4_lastWord_16 : decode cX4_lastWord 16 = .ok (.aload_n 0, 1) := by decide +kernel
theorem dX4_lastWord_17 : decode cX4_lastWord 17 = .ok (.getfield 14, 3) := by decide +kernel
theorem dX4_lastWord_20 : decode cX4_lastWord 20 = .ok (.getfield 20, 3) := by decide +kernel
theorem dX4_lastWord_23 : decode cX4_lastWord 23 = .ok (.iconst 1, 1) := by decide +kernel
theorem dX4_lastWord_24 : decode cX4_lastWord 24 = .ok (.isub, 1) := by decide +kernel
theorem dX4_lastWord_25 : decode cX4_lastWord 25 = .ok (.iload_n 2, 1) := by decide +kernel
theorem dX4_lastWord_26 : decode cX4_lastWord 26 = .ok (.isub, 1) := by decide +kernel
theorem dX4_lastWord_27 : decode cX4_lastWord 27 = .ok (.invokevirtual 47, 3) := by decide +kernel
theorem dX4_lastWord_30 : decode cX4_lastWord 30 = .ok (.invokestatic 51, 3) := by decide +kernel
theorem dX4_lastWord_33 : decode cX4_lastWord 33 = .ok (.ifCond .eq 9, 3) := by decide +kernel
theorem dX4_lastWord_36 : decode cX4_lastWord 36 = .ok (.iinc 2 1, 3) := by decide +kernel
theorem dX4_lastWord_39 : decode cX4_lastWord 39 = .ok (.goto (-32), 3) := by decide +kernel
theorem dX4_lastWord_42 : decode cX4_lastWord 42 = .ok (.iload_n 2, 1) := by decide +kernel
theorem dX4_lastWord_43 : decode cX4_lastWord 43 = .ok (.iload_n 1, 1) := by decide +kernel
theorem dX4_lastWord_44 : decode cX4_lastWord 44 = .ok (.if_icmp .ge 33, 3) := by decide +kernel
theorem dX4_lastWord_47 : decode cX4_lastWord 47 = .ok (.aload_n 0, 1) := by decide +kernel
theorem dX4_lastWord_48 : decode cX4_lastWord 48 = .ok (.getfield 14, 3) := by decide +kernel
theorem dX4_lastWord_51 : decode cX4_lastWord 51 = .ok (.aload_n 0, 1) := by decide +kernel
theorem dX4_lastWord_52 : decode cX4_lastWord 52 = .ok (.getfield 14, 3) := by decide +kernel
theorem dX4_lastWord_55 : decode cX4_lastWord 55 = .ok (.getfield 20, 3) := by decide +kernel
theorem dX4_lastWord_58 : decode cX4_lastWord 58 = .ok (.iconst 1, 1) := by decide +kernel
theorem dX4_lastWord_59 : decode cX4_lastWord 59 = .ok (.isub, 1) := by decide +kernel
theorem dX4_lastWord_60 : decode cX4_lastWord 60 = .ok (.iload_n 2, 1) := by decide +kernel
theorem dX4_lastWord_61 : decode cX4_lastWord 61 = .ok (.isub, 1) := by decide +kernel
theorem dX4_lastWord_62 : decode cX4_lastWord 62 = .ok (.invokevirtual 47, 3) := by decide +kernel
theorem dX4_lastWord_65 : decode cX4_lastWord 65 = .ok (.invokestatic 51, 3) := by decide +kernel
theorem dX4_lastWord_68 : decode cX4_lastWord 68 = .ok (.ifCond .ne 9, 3) := by decide +kernel
theorem dX4_lastWord_71 : decode cX4_lastWord 71 = .ok (.iinc 2 1, 3) := by decide +kernel
theorem dX4_lastWord_74 : decode cX4_lastWord 74 = .ok (.goto (-32), 3) := by decide +kernel
theorem dX4_lastWord_77 : decode cX4_lastWord 77 = .ok (.iload_n 2, 1) := by decide +kernel
theorem dX4_lastWord_78 : decode cX4_lastWord 78 = .ok (.ireturn, 1) := by decide +kernel
theorem dX4_isBlank_0 : decode cX4_isBlank 0 = .ok (.iload_n 0, 1) := by decide +kernel
theorem dX4_isBlank_1 : decode cX4_isBlank 1 = .ok (.bipush 32, 2) := by decide +kernel
theorem dX4_isBlank_3 : decode cX4_isBlank 3 = .ok (.if_icmp .eq 9, 3) := by decide +kernel
theorem dX4_isBlank_6 : decode cX4_isBlank 6 = .ok (.iload_n 0, 1) := by decide +kernel
theorem dX4_isBlank_7 : decode cX4_isBlank 7 = .ok (.bipush 9, 2) := by decide +kernel
theorem dX4_isBlank_9 : decode cX4_isBlank 9 = .ok (.if_icmp .ne 7, 3) := by decide +kernel
theorem dX4_isBlank_12 : decode cX4_isBlank 12 = .ok (.iconst 1, 1) := by decide +kernel
theorem dX4_isBlank_13 : decode cX4_isBlank 13 = .ok (.goto 4, 3) := by decide +kernel
theorem dX4_isBlank_16 : decode cX4_isBlank 16 = .ok (.iconst 0, 1) := by decide +kernel
theorem dX4_isBlank_17 : decode cX4_isBlank 17 = .ok (.ireturn, 1) := by decide +kernel
theorem dX5_init_0 : decode cX5_init 0 = .ok (.aload_n 0, 1) := by decide +kernel
theorem dX5_init_1 : decode cX5_init 1 = .ok (.invokespecial 3, 3) := by decide +kernel
theorem dX5_init_4 : decode cX5_init 4 = .ok (.aload_n 0, 1) := by decide +kernel
theorem dX5_init_5 : decode cX5_init 5 = .ok (.iconst 3, 1) := by decide +kernel
theorem dX5_init_6 : decode cX5_init 6 = .ok (.newarray .int, 2) := by decide +kernel
theorem dX5_init_8 : decode cX5_init 8 = .ok (.putfield 9, 3) := by decide +kernel
theorem dX5_init_11 : decode cX5_init 11 = .ok (.aload_n 0, 1) := by decide +kernel
theorem dX5_init_12 : decode cX5_init 12 = .ok (.iconst 3, 1) := by decide +kernel
theorem dX5_init_13 : decode cX5_init 13 = .ok (.newarray .int, 2) := by decide +kernel
theorem dX5_init_15 : decode cX5_init 15 = .ok (.putfield 15, 3) := by decide +kernel
theorem dX5_init_18 : decode cX5_init 18 = .ok (.aload_n 0, 1) := by decide +kernel
theorem dX5_init_19 : decode cX5_init 19 = .ok (.iconst 3, 1) := by decide +kernel
theorem dX5_init_20 : decode cX5_init 20 = .ok (.newarray .boolean, 2) := by decide +kernel
theorem dX5_init_22 : decode cX5_init 22 = .ok (.putfield 18, 3) := by decide +kernel
theorem dX5_init_25 : decode cX5_init 25 = .ok (.aload_n 0, 1) := by decide +kernel
theorem dX5_init_26 : decode cX5_init 26 = .ok (.iconst 3, 1) := by decide +kernel
theorem dX5_init_27 : decode cX5_init 27 = .ok (.newarray .int, 2) := by decide +kernel
theorem dX5_init_29 : decode cX5_init 29 = .ok (.putfield 22, 3) := by decide +kernel
theorem dX5_init_32 : decode cX5_init 32 = .ok (.return_, 1) := by decide +kernel
theorem dX5_add_0 : decode cX5_add 0 = .ok (.aload_n 0, 1) := by decide +kernel
theorem dX5_add_1 : decode cX5_add 1 = .ok (.getfield 25, 3) := by decide +kernel
theorem dX5_add_4 : decode cX5_add 4 = .ok (.iconst 3, 1) := by decide +kernel
theorem dX5_add_5 : decode cX5_add 5 = .ok (.if_icmp .lt 5, 3) := by decide +kernel
theorem dX5_add_8 : decode cX5_add 8 = .ok (.iconst 0, 1) := by decide +kernel
theorem dX5_add_9 : decode cX5_add 9 = .ok (.ireturn, 1) := by decide +kernel
theorem dX5_add_10 : decode cX5_add 10 = .ok (.aload_n 0, 1) := by decide +kernel
theorem dX5_add_11 : decode cX5_add 11 = .ok (.getfield 9, 3) := by decide +kernel
theorem dX5_add_14 : decode cX5_add 14 = .ok (.aload_n 0, 1) := by decide +kernel
theorem dX5_add_15 : decode cX5_add 15 = .ok (.getfield 25, 3) := by decide +kernel
theorem dX5_add_18 : decode cX5_add 18 = .ok (.iload_n 1, 1) := by decide +kernel
theorem dX5_add_19 : decode cX5_add 19 = .ok (.iastore, 1) := by decide +kernel
theorem dX5_add_20 : decode cX5_add 20 = .ok (.aload_n 0, 1) := by decide +kernel
theorem dX5_add_21 : decode cX5_add 21 = .ok (.getfield 15, 3) := by decide +kernel
theorem dX5_add_24 : decode cX5_add 24 = .ok (.aload_n 0, 1) := by decide +kernel
theorem dX5_add_25 : decode cX5_add 25 = .ok (.getfield 25, 3) := by decide +kernel
theorem dX5_add_28 : decode cX5_add 28 = .ok (.iload_n 2, 1) := by decide +kernel
theorem dX5_add_29 : decode cX5_add 29 = .ok (.iastore, 1) := by decide +kernel
theorem dX5_add_30 : decode cX5_add 30 = .ok (.aload_n 0, 1) := by decide +kernel
theorem dX5_add_31 : decode cX5_add 31 = .ok (.getfield 18, 3) := by decide +kernel
theorem dX5_add_34 : decode cX5_add 34 = .ok (.aload_n 0, 1) := by decide +kernel
theorem dX5_add_35 : decode cX5_add 35 = .ok (.getfield 25, 3) := by decide +kernel
theorem dX5_add_38 : decode cX5_add 38 = .ok (.iload_n 3, 1) := by decide +kernel
theorem dX5_add_39 : decode cX5_add 39 = .ok (.bastore, 1) := by decide +kernel
theorem dX5_add_40 : decode cX5_add 40 = .ok (.aload_n 0, 1) := by decide +kernel
theorem dX5_add_41 : decode cX5_add 41 = .ok (.getfield 22, 3) := by decide +kernel
theorem dX5_add_44 : decode cX5_add 44 = .ok (.aload_n 0, 1) := by decide +kernel
theorem dX5_add_45 : decode cX5_add 45 = .ok (.getfield 25, 3) := by decide +kernel
theorem dX5_add_48 : decode cX5_add 48 = .ok (.iload 4, 2) := by decide +kernel
theorem dX5_add_50 : decode cX5_add 50 = .ok (.iastore, 1) := by decide +kernel
theorem dX5_add_51 : decode cX5_add 51 = .ok (.aload_n 0, 1) := by decide +kernel
theorem dX5_add_52 : decode cX5_add 52 = .ok (.dup, 1) := by decide +kernel
theorem dX5_add_53 : decode cX5_add 53 = .ok (.getfield 25, 3) := by decide +kernel
theorem dX5_add_56 : decode cX5_add 56 = .ok (.iconst 1, 1) := by decide +kernel
theorem dX5_add_57 : decode cX5_add 57 = .ok (.iadd, 1) := by decide +kernel
theorem dX5_add_58 : decode cX5_add 58 = .ok (.putfield 25, 3) := by decide +kernel
theorem dX5_add_61 : decode cX5_add 61 = .ok (.iconst 1, 1) := by decide +kernel
theorem dX5_add_62 : decode cX5_add 62 = .ok (.ireturn, 1) := by decide +kernel
theorem dX5_isFirstDue_0 : decode cX5_isFirstDue 0 = .ok (.aload_n 0, 1) := by decide +kernel
theorem dX5_isFirstDue_1 : decode cX5_isFirstDue 1 = .ok (.getfield 25, 3) := by decide +kernel
theorem dX5_isFirstDue_4 : decode cX5_isFirstDue 4 = .ok (.ifCond .le 16, 3) := by decide +kernel
theorem dX5_isFirstDue_7 : decode cX5_isFirstDue 7 = .ok (.aload_n 0, 1) := by decide +kernel
theorem dX5_isFirstDue_8 : decode cX5_isFirstDue 8 = .ok (.getfield 22, 3) := by decide +kernel
theorem dX5_isFirstDue_11 : decode cX5_isFirstDue 11 = .ok (.iconst 0, 1) := by decide +kernel
theorem dX5_isFirstDue_12 : decode cX5_isFirstDue 12 = .ok (.iaload, 1) := by decide +kernel
theorem dX5_isFirstDue_13 : decode cX5_isFirstDue 13 = .ok (.ifCond .ne 7, 3) := by decide +kernel
theorem dX5_isFirstDue_16 : decode cX5_isFirstDue 16 = .ok (.iconst 1, 1) := by decide +kernel
theorem dX5_isFirstDue_17 : decode cX5_isFirstDue 17 = .ok (.goto 4, 3) := by decide +kernel
theorem dX5_isFirstDue_20 : decode cX5_isFirstDue 20 = .ok (.iconst 0, 1) := by decide +kernel
theorem dX5_isFirstDue_21 : decode cX5_isFirstDue 21 = .ok (.ireturn, 1) := by decide +kernel
theorem dX5_removeFirst_0 : decode cX5_removeFirst 0 = .ok (.iconst 1, 1) := by decide +kernel
theorem dX5_removeFirst_1 : decode cX5_removeFirst 1 = .ok (.istore_n 1, 1) := by decide +kernel
theorem dX5_removeFirst_2 : decode cX5_removeFirst 2 = .ok (.iload_n 1, 1) := by decide +kernel
theorem dX5_removeFirst_3 : decode cX5_removeFirst 3 = .ok (.aload_n 0, 1) := by decide +kernel
theorem dX5_removeFirst_4 : decode cX5_removeFirst 4 = .ok (.getfield 25, 3) := by decide +kernel
theorem dX5_removeFirst_7 : decode cX5_removeFirst 7 = .ok (.if_icmp .ge 65, 3) := by decide +kernel
theorem dX5_removeFirst_10 : decode cX5_removeFirst 10 = .ok (.aload_n 0, 1) := by decide +kernel
theorem dX5_removeFirst_11 : decode cX5_removeFirst 11 = .ok (.getfield 9, 3) := by decide +kernel
theorem dX5_removeFirst_14 : decode cX5_removeFirst 14 = .ok (.iload_n 1, 1) := by decide +kernel
theorem dX5_removeFirst_15 : decode cX5_removeFirst 15 = .ok (.iconst 1, 1) := by decide +kernel
theorem dX5_removeFirst_16 : decode cX5_removeFirst 16 = .ok (.isub, 1) := by decide +kernel
theorem dX5_removeFirst_17 : decode cX5_removeFirst 17 = .ok (.aload_n 0, 1) := by decide +kernel
theorem dX5_removeFirst_18 : decode cX5_removeFirst 18 = .ok (.getfield 9, 3) := by decide +kernel
theorem dX5_removeFirst_21 : decode cX5_removeFirst 21 = .ok (.iload_n 1, 1) := by decide +kernel
theorem dX5_removeFirst_22 : decode cX5_removeFirst 22 = .ok (.iaload, 1) := by decide +kernel
theorem dX5_removeFirst_23 : decode cX5_removeFirst 23 = .ok (.iastore, 1) := by decide +kernel
theorem dX5_removeFirst_24 : decode cX5_removeFirst 24 = .ok (.aload_n 0, 1) := by decide +kernel
theorem dX5_removeFirst_25 : decode cX5_removeFirst 25 = .ok (.getfield 15, 3) := by decide +kernel
theorem dX5_removeFirst_28 : decode cX5_removeFirst 28 = .ok (.iload_n 1, 1) := by decide +kernel
theorem dX5_removeFirst_29 : decode cX5_removeFirst 29 = .ok (.iconst 1, 1) := by decide +kernel
theorem dX5_removeFirst_30 : decode cX5_removeFirst 30 = .ok (.isub, 1) := by decide +kernel
theorem dX5_removeFirst_31 : decode cX5_removeFirst 31 = .ok (.aload_n 0, 1) := by decide +kernel
theorem dX5_removeFirst_32 : decode cX5_removeFirst 32 = .ok (.getfield 15, 3) := by decide +kernel
theorem dX5_removeFirst_35 : decode cX5_removeFirst 35 = .ok (.iload_n 1, 1) := by decide +kernel
theorem dX5_removeFirst_36 : decode cX5_removeFirst 36 = .ok (.iaload, 1) := by decide +kernel
theorem dX5_removeFirst_37 : decode cX5_removeFirst 37 = .ok (.iastore, 1) := by decide +kernel
theorem dX5_removeFirst_38 : decode cX5_removeFirst 38 = .ok (.aload_n 0, 1) := by decide +kernel
theorem dX5_removeFirst_39 : decode cX5_removeFirst 39 = .ok (.getfield 18, 3) := by decide +kernel
theorem dX5_removeFirst_42 : decode cX5_removeFirst 42 = .ok (.iload_n 1, 1) := by decide +kernel
theorem dX5_removeFirst_43 : decode cX5_removeFirst 43 = .ok (.iconst 1, 1) := by decide +kernel
theorem dX5_removeFirst_44 : decode cX5_removeFirst 44 = .ok (.isub, 1) := by decide +kernel
theorem dX5_removeFirst_45 : decode cX5_removeFirst 45 = .ok (.aload_n 0, 1) := by decide +kernel
theorem dX5_removeFirst_46 : decode cX5_removeFirst 46 = .ok (.getfield 18, 3) := by decide +kernel
theorem dX5_removeFirst_49 : decode cX5_removeFirst 49 = .ok (.iload_n 1, 1) := by decide +kernel
theorem dX5_removeFirst_50 : decode cX5_removeFirst 50 = .ok (.baload, 1) := by decide +kernel
theorem dX5_removeFirst_51 : decode cX5_removeFirst 51 = .ok (.bastore, 1) := by decide +kernel
theorem dX5_removeFirst_52 : decode cX5_removeFirst 52 = .ok (.aload_n 0, 1) := by decide +kernel
theorem dX5_removeFirst_53 : decode cX5_removeFirst 53 = .ok (.getfield 22, 3) := by decide +kernel
theorem dX5_removeFirst_56 : decode cX5_removeFirst 56 = .ok (.iload_n 1, 1) := by decide +kernel
theorem dX5_removeFirst_57 : decode cX5_removeFirst 57 = .ok (.iconst 1, 1) := by decide +kernel
theorem dX5_removeFirst_58 : decode cX5_removeFirst 58 = .ok (.isub, 1) := by decide +kernel
theorem dX5_removeFirst_59 : decode cX5_removeFirst 59 = .ok (.aload_n 0, 1) := by decide +kernel
theorem dX5_removeFirst_60 : decode cX5_removeFirst 60 = .ok (.getfield 22, 3) := by decide +kernel
theorem dX5_removeFirst_63 : decode cX5_removeFirst 63 = .ok (.iload_n 1, 1) := by decide +kernel
theorem dX5_removeFirst_64 : decode cX5_removeFirst 64 = .ok (.iaload, 1) := by decide +kernel
theorem dX5_removeFirst_65 : decode cX5_removeFirst 65 = .ok (.iastore, 1) := by decide +kernel
theorem dX5_removeFirst_66 : decode cX5_removeFirst 66 = .ok (.iinc 1 1, 3) := by decide +kernel
theorem dX5_removeFirst_69 : decode cX5_removeFirst 69 = .ok (.goto (-67), 3) := by decide +kernel
theorem dX5_removeFirst_72 : decode cX5_removeFirst 72 = .ok (.aload_n 0, 1) := by decide +kernel
theorem dX5_removeFirst_73 : decode cX5_removeFirst 73 = .ok (.iconst 0, 1) := by decide +kernel
theorem dX5_removeFirst_74 : decode cX5_removeFirst 74 = .ok (.aload_n 0, 1) := by decide +kernel
theorem dX5_removeFirst_75 : decode cX5_removeFirst 75 = .ok (.getfield 25, 3) := by decide +kernel
theorem dX5_removeFirst_78 : decode cX5_removeFirst 78 = .ok (.iconst 1, 1) := by decide +kernel
theorem dX5_removeFirst_79 : decode cX5_removeFirst 79 = .ok (.isub, 1) := by decide +kernel
theorem dX5_removeFirst_80 : decode cX5_removeFirst 80 = .ok (.invokestatic 29, 3) := by decide +kernel
theorem dX5_removeFirst_83 : decode cX5_removeFirst 83 = .ok (.putfield 25, 3) := by decide +kernel
theorem dX5_removeFirst_86 : decode cX5_removeFirst 86 = .ok (.return_, 1) := by decide +kernel
theorem dX5_byteHasGone_0 : decode cX5_byteHasGone 0 = .ok (.iconst 0, 1) := by decide +kernel
theorem dX5_byteHasGone_1 : decode cX5_byteHasGone 1 = .ok (.istore_n 1, 1) := by decide +kernel
theorem dX5_byteHasGone_2 : decode cX5_byteHasGone 2 = .ok (.iload_n 1, 1) := by decide +kernel
theorem dX5_byteHasGone_3 : decode cX5_byteHasGone 3 = .ok (.aload_n 0, 1) := by decide +kernel
theorem dX5_byteHasGone_4 : decode cX5_byteHasGone 4 = .ok (.getfield 25, 3) := by decide +kernel
theorem dX5_byteHasGone_7 : decode cX5_byteHasGone 7 = .ok (.if_icmp .ge 27, 3) := by decide +kernel
theorem dX5_byteHasGone_10 : decode cX5_byteHasGone 10 = .ok (.aload_n 0, 1) := by decide +kernel
theorem dX5_byteHasGone_11 : decode cX5_byteHasGone 11 = .ok (.getfield 22, 3) := by decide +kernel
theorem dX5_byteHasGone_14 : decode cX5_byteHasGone 14 = .ok (.iload_n 1, 1) := by decide +kernel
theorem dX5_byteHasGone_15 : decode cX5_byteHasGone 15 = .ok (.iconst 0, 1) := by decide +kernel
theorem dX5_byteHasGone_16 : decode cX5_byteHasGone 16 = .ok (.aload_n 0, 1) := by decide +kernel
theorem dX5_byteHasGone_17 : decode cX5_byteHasGone 17 = .ok (.getfield 22, 3) := by decide +kernel
theorem dX5_byteHasGone_20 : decode cX5_byteHasGone 20 = .ok (.iload_n 1, 1) := by decide +kernel
theorem dX5_byteHasGone_21 : decode cX5_byteHasGone 21 = .ok (.iaload, 1) := by decide +kernel
theorem dX5_byteHasGone_22 : decode cX5_byteHasGone 22 = .ok (.iconst 1, 1) := by decide +kernel
theorem dX5_byteHasGone_23 : decode cX5_byteHasGone 23 = .ok (.isub, 1) := by decide +kernel
theorem dX5_byteHasGone_24 : decode cX5_byteHasGone 24 = .ok (.invokestatic 29, 3) := by decide +kernel
theorem dX5_byteHasGone_27 : decode cX5_byteHasGone 27 = .ok (.iastore, 1) := by decide +kernel
theorem dX5_byteHasGone_28 : decode cX5_byteHasGone 28 = .ok (.iinc 1 1, 3) := by decide +kernel
theorem dX5_byteHasGone_31 : decode cX5_byteHasGone 31 = .ok (.goto (-29), 3) := by decide +kernel
theorem dX5_byteHasGone_34 : decode cX5_byteHasGone 34 = .ok (.return_, 1) := by decide +kernel
theorem dX5_onlyLeft_0 : decode cX5_onlyLeft 0 = .ok (.iconst 0, 1) := by decide +kernel
theorem dX5_onlyLeft_1 : decode cX5_onlyLeft 1 = .ok (.istore_n 2, 1) := by decide +kernel
theorem dX5_onlyLeft_2 : decode cX5_onlyLeft 2 = .ok (.iload_n 2, 1) := by decide +kernel
theorem dX5_onlyLeft_3 : decode cX5_onlyLeft 3 = .ok (.aload_n 0, 1) := by decide +kernel
theorem dX5_onlyLeft_4 : decode cX5_onlyLeft 4 = .ok (.getfield 25, 3) := by decide +kernel
theorem dX5_onlyLeft_7 : decode cX5_onlyLeft 7 = .ok (.if_icmp .ge 25, 3) := by decide +kernel
theorem dX5_onlyLeft_10 : decode cX5_onlyLeft 10 = .ok (.aload_n 0, 1) := by decide +kernel
theorem dX5_onlyLeft_11 : decode cX5_onlyLeft 11 = .ok (.getfield 22, 3) := by decide +kernel
theorem dX5_onlyLeft_14 : decode cX5_onlyLeft 14 = .ok (.iload_n 2, 1) := by decide +kernel
theorem dX5_onlyLeft_15 : decode cX5_onlyLeft 15 = .ok (.aload_n 0, 1) := by decide +kernel
theorem dX5_onlyLeft_16 : decode cX5_onlyLeft 16 = .ok (.getfield 22, 3) := by decide +kernel
theorem dX5_onlyLeft_19 : decode cX5_onlyLeft 19 = .ok (.iload_n 2, 1) := by decide +kernel
theorem dX5_onlyLeft_20 : decode cX5_onlyLeft 20 = .ok (.iaload, 1) := by decide +kernel
theorem dX5_onlyLeft_21 : decode cX5_onlyLeft 21 = .ok (.iload_n 1, 1) := by decide +kernel
theorem dX5_onlyLeft_22 : decode cX5_onlyLeft 22 = .ok (.invokestatic 35, 3) := by decide +kernel
theorem dX5_onlyLeft_25 : decode cX5_onlyLeft 25 = .ok (.iastore, 1) := by decide +kernel
theorem dX5_onlyLeft_26 : decode cX5_onlyLeft 26 = .ok (.iinc 2 1, 3) := by decide +kernel
theorem dX5_onlyLeft_29 : decode cX5_onlyLeft 29 = .ok (.goto (-27), 3) := by decide +kernel
theorem dX5_onlyLeft_32 : decode cX5_onlyLeft 32 = .ok (.return_, 1) := by decide +kernel
