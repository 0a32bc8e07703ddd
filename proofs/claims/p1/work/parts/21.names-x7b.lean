set_option maxRecDepth 20000 in
theorem gX7_emptyAll_X7_settle : GoodIn wsX7_emptyAll (wsV RX7 206 RX7 yX7_settle wsX7_settle) := goodIn_app (goodIn_of _ (by decide +kernel)) ggX7_emptyAll_X7_settle
theorem dX7_emptyAll_0 : decode cX7_emptyAll 0 = .ok (.aload_n 0, 1) := by decide +kernel
theorem dX7_emptyAll_1 : decode cX7_emptyAll 1 = .ok (.getfield 45, 3) := by decide +kernel
theorem dX7_emptyAll_4 : decode cX7_emptyAll 4 = .ok (.iload_n 1, 1) := by decide +kernel
theorem dX7_emptyAll_5 : decode cX7_emptyAll 5 = .ok (.iconst 0, 1) := by decide +kernel
theorem dX7_emptyAll_6 : decode cX7_emptyAll 6 = .ok (.iastore, 1) := by decide +kernel
theorem dX7_emptyAll_7 : decode cX7_emptyAll 7 = .ok (.aload_n 0, 1) := by decide +kernel
theorem dX7_emptyAll_8 : decode cX7_emptyAll 8 = .ok (.getfield 51, 3) := by decide +kernel
theorem dX7_emptyAll_11 : decode cX7_emptyAll 11 = .ok (.iload_n 1, 1) := by decide +kernel
theorem dX7_emptyAll_12 : decode cX7_emptyAll 12 = .ok (.iconst 0, 1) := by decide +kernel
theorem dX7_emptyAll_13 : decode cX7_emptyAll 13 = .ok (.iastore, 1) := by decide +kernel
theorem dX7_emptyAll_14 : decode cX7_emptyAll 14 = .ok (.iconst 0, 1) := by decide +kernel
theorem dX7_emptyAll_15 : decode cX7_emptyAll 15 = .ok (.istore_n 2, 1) := by decide +kernel
theorem dX7_emptyAll_16 : decode cX7_emptyAll 16 = .ok (.iload_n 2, 1) := by decide +kernel
theorem dX7_emptyAll_17 : decode cX7_emptyAll 17 = .ok (.aload_n 0, 1) := by decide +kernel
theorem dX7_emptyAll_18 : decode cX7_emptyAll 18 = .ok (.getfield 81, 3) := by decide +kernel
theorem dX7_emptyAll_21 : decode cX7_emptyAll 21 = .ok (.iload_n 1, 1) := by decide +kernel
theorem dX7_emptyAll_22 : decode cX7_emptyAll 22 = .ok (.iaload, 1) := by decide +kernel
theorem dX7_emptyAll_23 : decode cX7_emptyAll 23 = .ok (.if_icmp .ge 20, 3) := by decide +kernel
theorem dX7_emptyAll_26 : decode cX7_emptyAll 26 = .ok (.aload_n 0, 1) := by decide +kernel
theorem dX7_emptyAll_27 : decode cX7_emptyAll 27 = .ok (.getfield 93, 3) := by decide +kernel
theorem dX7_emptyAll_30 : decode cX7_emptyAll 30 = .ok (.iconst 3, 1) := by decide +kernel
theorem dX7_emptyAll_31 : decode cX7_emptyAll 31 = .ok (.iload_n 1, 1) := by decide +kernel
theorem dX7_emptyAll_32 : decode cX7_emptyAll 32 = .ok (.imul, 1) := by decide +kernel
theorem dX7_emptyAll_33 : decode cX7_emptyAll 33 = .ok (.iload_n 2, 1) := by decide +kernel
theorem dX7_emptyAll_34 : decode cX7_emptyAll 34 = .ok (.iadd, 1) := by decide +kernel
theorem dX7_emptyAll_35 : decode cX7_emptyAll 35 = .ok (.iconst 0, 1) := by decide +kernel
theorem dX7_emptyAll_36 : decode cX7_emptyAll 36 = .ok (.iastore, 1) := by decide +kernel
theorem dX7_emptyAll_37 : decode cX7_emptyAll 37 = .ok (.iinc 2 1, 3) := by decide +kernel
theorem dX7_emptyAll_40 : decode cX7_emptyAll 40 = .ok (.goto (-24), 3) := by decide +kernel
theorem dX7_emptyAll_43 : decode cX7_emptyAll 43 = .ok (.aload_n 0, 1) := by decide +kernel
theorem dX7_emptyAll_44 : decode cX7_emptyAll 44 = .ok (.iload_n 1, 1) := by decide +kernel
theorem dX7_emptyAll_45 : decode cX7_emptyAll 45 = .ok (.invokevirtual 206, 3) := by decide +kernel
theorem dX7_emptyAll_48 : decode cX7_emptyAll 48 = .ok (.return_, 1) := by decide +kernel
set_option maxRecDepth 20000 in
theorem ggX7_receive_X7_isPort : GoodIn wsX7_receive wsX7_isPort := goodIn_r _ [9] (by decide +kernel) (by decide +kernel)
set_option maxRecDepth 20000 in
theorem gX7_receive_X7_isPort : GoodIn wsX7_receive (va_wsS RX7 209 yX7_isPort wsX7_isPort) := goodIn_app (goodIn_of _ (by decide +kernel)) ggX7_receive_X7_isPort
theorem dX7_receive_0 : decode cX7_receive 0 = .ok (.aload_n 0, 1) := by decide +kernel
theorem dX7_receive_1 : decode cX7_receive 1 = .ok (.iconst 0, 1) := by decide +kernel
theorem dX7_receive_2 : decode cX7_receive 2 = .ok (.putfield 7, 3) := by decide +kernel
theorem dX7_receive_5 : decode cX7_receive 5 = .ok (.iload_n 1, 1) := by decide +kernel
theorem dX7_receive_6 : decode cX7_receive 6 = .ok (.invokestatic 209, 3) := by decide +kernel
theorem dX7_receive_9 : decode cX7_receive 9 = .ok (.ifCond .eq 23, 3) := by decide +kernel
theorem dX7_receive_12 : decode cX7_receive 12 = .ok (.iload_n 2, 1) := by decide +kernel
theorem dX7_receive_13 : decode cX7_receive 13 = .ok (.ifCond .lt 19, 3) := by decide +kernel
theorem dX7_receive_16 : decode cX7_receive 16 = .ok (.iload_n 2, 1) := by decide +kernel
theorem dX7_receive_17 : decode cX7_receive 17 = .ok (.sipush 255, 3) := by decide +kernel
theorem dX7_receive_20 : decode cX7_receive 20 = .ok (.if_icmp .gt 12, 3) := by decide +kernel
theorem dX7_receive_23 : decode cX7_receive 23 = .ok (.iload_n 3, 1) := by decide +kernel
theorem dX7_receive_24 : decode cX7_receive 24 = .ok (.ifCond .lt 8, 3) := by decide +kernel
theorem dX7_receive_27 : decode cX7_receive 27 = .ok (.iload_n 3, 1) := by decide +kernel
theorem dX7_receive_28 : decode cX7_receive 28 = .ok (.iconst 3, 1) := by decide +kernel
theorem dX7_receive_29 : decode cX7_receive 29 = .ok (.if_icmp .le 5, 3) := by decide +kernel
theorem dX7_receive_32 : decode cX7_receive 32 = .ok (.iconst 0, 1) := by decide +kernel
theorem dX7_receive_33 : decode cX7_receive 33 = .ok (.ireturn, 1) := by decide +kernel
theorem dX7_receive_34 : decode cX7_receive 34 = .ok (.aload_n 0, 1) := by decide +kernel
theorem dX7_receive_35 : decode cX7_receive 35 = .ok (.getfield 23, 3) := by decide +kernel
theorem dX7_receive_38 : decode cX7_receive 38 = .ok (.iload_n 1, 1) := by decide +kernel
theorem dX7_receive_39 : decode cX7_receive 39 = .ok (.iaload, 1) := by decide +kernel
theorem dX7_receive_40 : decode cX7_receive 40 = .ok (.bipush 8, 2) := by decide +kernel
theorem dX7_receive_42 : decode cX7_receive 42 = .ok (.if_icmp .ne 19, 3) := by decide +kernel
theorem dX7_receive_45 : decode cX7_receive 45 = .ok (.aload_n 0, 1) := by decide +kernel
theorem dX7_receive_46 : decode cX7_receive 46 = .ok (.getfield 105, 3) := by decide +kernel
theorem dX7_receive_49 : decode cX7_receive 49 = .ok (.iconst 5, 1) := by decide +kernel
theorem dX7_receive_50 : decode cX7_receive 50 = .ok (.iload_n 1, 1) := by decide +kernel
theorem dX7_receive_51 : decode cX7_receive 51 = .ok (.imul, 1) := by decide +kernel
theorem dX7_receive_52 : decode cX7_receive 52 = .ok (.iconst 1, 1) := by decide +kernel
theorem dX7_receive_53 : decode cX7_receive 53 = .ok (.iadd, 1) := by decide +kernel
theorem dX7_receive_54 : decode cX7_receive 54 = .ok (.dup2, 1) := by decide +kernel
theorem dX7_receive_55 : decode cX7_receive 55 = .ok (.iaload, 1) := by decide +kernel
theorem dX7_receive_56 : decode cX7_receive 56 = .ok (.iconst 1, 1) := by decide +kernel
theorem dX7_receive_57 : decode cX7_receive 57 = .ok (.iadd, 1) := by decide +kernel
theorem dX7_receive_58 : decode cX7_receive 58 = .ok (.iastore, 1) := by decide +kernel
theorem dX7_receive_59 : decode cX7_receive 59 = .ok (.iconst 0, 1) := by decide +kernel
theorem dX7_receive_60 : decode cX7_receive 60 = .ok (.ireturn, 1) := by decide +kernel
theorem dX7_receive_61 : decode cX7_receive 61 = .ok (.aload_n 0, 1) := by decide +kernel
theorem dX7_receive_62 : decode cX7_receive 62 = .ok (.getfield 17, 3) := by decide +kernel
theorem dX7_receive_65 : decode cX7_receive 65 = .ok (.bipush 8, 2) := by decide +kernel
theorem dX7_receive_67 : decode cX7_receive 67 = .ok (.iload_n 1, 1) := by decide +kernel
theorem dX7_receive_68 : decode cX7_receive 68 = .ok (.imul, 1) := by decide +kernel
theorem dX7_receive_69 : decode cX7_receive 69 = .ok (.aload_n 0, 1) := by decide +kernel
theorem dX7_receive_70 : decode cX7_receive 70 = .ok (.getfield 23, 3) := by decide +kernel
theorem dX7_receive_73 : decode cX7_receive 73 = .ok (.iload_n 1, 1) := by decide +kernel
theorem dX7_receive_74 : decode cX7_receive 74 = .ok (.iaload, 1) := by decide +kernel
theorem dX7_receive_75 : decode cX7_receive 75 = .ok (.iadd, 1) := by decide +kernel
theorem dX7_receive_76 : decode cX7_receive 76 = .ok (.iload_n 2, 1) := by decide +kernel
theorem dX7_receive_77 : decode cX7_receive 77 = .ok (.iastore, 1) := by decide +kernel
theorem dX7_receive_78 : decode cX7_receive 78 = .ok (.aload_n 0, 1) := by decide +kernel
theorem dX7_receive_79 : decode cX7_receive 79 = .ok (.getfield 20, 3) := by decide +kernel
theorem dX7_receive_82 : decode cX7_receive 82 = .ok (.bipush 8, 2) := by decide +kernel
theorem dX7_receive_84 : decode cX7_receive 84 = .ok (.iload_n 1, 1) := by decide +kernel
theorem dX7_receive_85 : decode cX7_receive 85 = .ok (.imul, 1) := by decide +kernel
theorem dX7_receive_86 : decode cX7_receive 86 = .ok (.aload_n 0, 1) := by decide +kernel
theorem dX7_receive_87 : decode cX7_receive 87 = .ok (.getfield 23, 3) := by decide +kernel
theorem dX7_receive_90 : decode cX7_receive 90 = .ok (.iload_n 1, 1) := by decide +kernel
theorem dX7_receive_91 : decode cX7_receive 91 = .ok (.iaload, 1) := by decide +kernel
theorem dX7_receive_92 : decode cX7_receive 92 = .ok (.iadd, 1) := by decide +kernel
theorem dX7_receive_93 : decode cX7_receive 93 = .ok (.iload_n 3, 1) := by decide +kernel
theorem dX7_receive_94 : decode cX7_receive 94 = .ok (.iastore, 1) := by decide +kernel
theorem dX7_receive_95 : decode cX7_receive 95 = .ok (.aload_n 0, 1) := by decide +kernel
theorem dX7_receive_96 : decode cX7_receive 96 = .ok (.getfield 23, 3) := by decide +kernel
theorem dX7_receive_99 : decode cX7_receive 99 = .ok (.iload_n 1, 1) := by decide +kernel
theorem dX7_receive_100 : decode cX7_receive 100 = .ok (.dup2, 1) := by decide +kernel
theorem dX7_receive_101 : decode cX7_receive 101 = .ok (.iaload, 1) := by decide +kernel
theorem dX7_receive_102 : decode cX7_receive 102 = .ok (.iconst 1, 1) := by decide +kernel
theorem dX7_receive_103 : decode cX7_receive 103 = .ok (.iadd, 1) := by decide +kernel
theorem dX7_receive_104 : decode cX7_receive 104 = .ok (.iastore, 1) := by decide +kernel
theorem dX7_receive_105 : decode cX7_receive 105 = .ok (.aload_n 0, 1) := by decide +kernel
theorem dX7_receive_106 : decode cX7_receive 106 = .ok (.getfield 105, 3) := by decide +kernel
theorem dX7_receive_109 : decode cX7_receive 109 = .ok (.iconst 5, 1) := by decide +kernel
theorem dX7_receive_110 : decode cX7_receive 110 = .ok (.iload_n 1, 1) := by decide +kernel
theorem dX7_receive_111 : decode cX7_receive 111 = .ok (.imul, 1) := by decide +kernel
theorem dX7_receive_112 : decode cX7_receive 112 = .ok (.dup2, 1) := by decide +kernel
theorem dX7_receive_113 : decode cX7_receive 113 = .ok (.iaload, 1) := by decide +kernel
theorem dX7_receive_114 : decode cX7_receive 114 = .ok (.iconst 1, 1) := by decide +kernel
theorem dX7_receive_115 : decode cX7_receive 115 = .ok (.iadd, 1) := by decide +kernel
theorem dX7_receive_116 : decode cX7_receive 116 = .ok (.iastore, 1) := by decide +kernel
theorem dX7_receive_117 : decode cX7_receive 117 = .ok (.iconst 1, 1) := by decide +kernel
theorem dX7_receive_118 : decode cX7_receive 118 = .ok (.ireturn, 1) := by decide +kernel
set_option maxRecDepth 20000 in
theorem ggX7_flowByte_X7_mode1 : GoodIn wsX7_flowByte wsX7_mode1 := goodIn_r _ [6, 7, 8, 9, 10, 11, 12, 13, 14, 15, 16, 17, 18, 19, 20, 21, 22, 23, 24, 25, 26, 27, 28, 29, 30, 31, 32, 33, 34, 35, 36, 37, 38, 39, 40, 41] (by decide +kernel) (by decide +kernel)
set_option maxRecDepth 20000 in
theorem gX7_flowByte_X7_mode1 : GoodIn wsX7_flowByte (wsV RX7 147 RX7 yX7_mode1 wsX7_mode1) := goodIn_app (goodIn_of _ (by decide +kernel)) ggX7_flowByte_X7_mode1
theorem dX7_flowByte_0 : decode cX7_flowByte 0 = .ok (.sipush 256, 3) := by decide +kernel
theorem dX7_flowByte_3 : decode cX7_flowByte 3 = .ok (.istore_n 2, 1) := by decide +kernel
theorem dX7_flowByte_4 : decode cX7_flowByte 4 = .ok (.aload_n 0, 1) := by decide +kernel
theorem dX7_flowByte_5 : decode cX7_flowByte 5 = .ok (.getfield 66, 3) := by decide +kernel
theorem dX7_flowByte_8 : decode cX7_flowByte 8 = .ok (.iload_n 1, 1) := by decide +kernel
theorem dX7_flowByte_9 : decode cX7_flowByte 9 = .ok (.iaload, 1) := by decide +kernel
theorem dX7_flowByte_10 : decode cX7_flowByte 10 = .ok (.iconst 1, 1) := by decide +kernel
theorem dX7_flowByte_11 : decode cX7_flowByte 11 = .ok (.if_icmp .ne 11, 3) := by decide +kernel
theorem dX7_flowByte_14 : decode cX7_flowByte 14 = .ok (.aload_n 0, 1) := by decide +kernel
theorem dX7_flowByte_15 : decode cX7_flowByte 15 = .ok (.iload_n 1, 1) := by decide +kernel
theorem dX7_flowByte_16 : decode cX7_flowByte 16 = .ok (.bipush 24, 2) := by decide +kernel
theorem dX7_flowByte_18 : decode cX7_flowByte 18 = .ok (.invokevirtual 147, 3) := by decide +kernel
theorem dX7_flowByte_21 : decode cX7_flowByte 21 = .ok (.istore_n 2, 1) := by decide +kernel
theorem dX7_flowByte_22 : decode cX7_flowByte 22 = .ok (.aload_n 0, 1) := by decide +kernel
theorem dX7_flowByte_23 : decode cX7_flowByte 23 = .ok (.getfield 66, 3) := by decide +kernel
theorem dX7_flowByte_26 : decode cX7_flowByte 26 = .ok (.iload_n 1, 1) := by decide +kernel
theorem dX7_flowByte_27 : decode cX7_flowByte 27 = .ok (.iaload, 1) := by decide +kernel
theorem dX7_flowByte_28 : decode cX7_flowByte 28 = .ok (.iconst 2, 1) := by decide +kernel
theorem dX7_flowByte_29 : decode cX7_flowByte 29 = .ok (.if_icmp .ne 11, 3) := by decide +kernel
theorem dX7_flowByte_32 : decode cX7_flowByte 32 = .ok (.aload_n 0, 1) := by decide +kernel
theorem dX7_flowByte_33 : decode cX7_flowByte 33 = .ok (.iload_n 1, 1) := by decide +kernel
theorem dX7_flowByte_34 : decode cX7_flowByte 34 = .ok (.bipush 23, 2) := by decide +kernel
theorem dX7_flowByte_36 : decode cX7_flowByte 36 = .ok (.invokevirtual 147, 3) := by decide +kernel
theorem dX7_flowByte_39 : decode cX7_flowByte 39 = .ok (.istore_n 2, 1) := by decide +kernel
theorem dX7_flowByte_40 : decode cX7_flowByte 40 = .ok (.iload_n 2, 1) := by decide +kernel
theorem dX7_flowByte_41 : decode cX7_flowByte 41 = .ok (.sipush 256, 3) := by decide +kernel
theorem dX7_flowByte_44 : decode cX7_flowByte 44 = .ok (.if_icmp .ne 5, 3) := by decide +kernel
theorem dX7_flowByte_47 : decode cX7_flowByte 47 = .ok (.iconst (-1), 1) := by decide +kernel
theorem dX7_flowByte_48 : decode cX7_flowByte 48 = .ok (.ireturn, 1) := by decide +kernel
theorem dX7_flowByte_49 : decode cX7_flowByte 49 = .ok (.iload_n 2, 1) := by decide +kernel
theorem dX7_flowByte_50 : decode cX7_flowByte 50 = .ok (.ireturn, 1) := by decide +kernel
set_option maxRecDepth 20000 in
theorem ggX7_transmit_X7_isPort : GoodIn wsX7_transmit wsX7_isPort := goodIn_r _ [13] (by decide +kernel) (by decide +kernel)
set_option maxRecDepth 20000 in
theorem gX7_transmit_X7_isPort : GoodIn wsX7_transmit (va_wsS RX7 209 yX7_isPort wsX7_isPort) := goodIn_app (goodIn_of _ (by decide +kernel)) ggX7_transmit_X7_isPort
set_option maxRecDepth 20000 in
theorem ggX7_transmit_X7_push : GoodIn wsX7_transmit wsX7_push := goodIn_r _ [17, 18, 5, 6, 19, 53, 54, 55, 56, 57, 58, 59, 60, 61, 62, 63, 64, 65, 66, 67, 68, 69, 70, 71, 72, 73, 74, 75, 76, 77, 78, 79, 80, 81, 82, 83, 84, 85, 86] (by decide +kernel) (by decide +kernel)
set_option maxRecDepth 20000 in
theorem gX7_transmit_X7_push : GoodIn wsX7_transmit (wsV RX7 212 RX7 yX7_push wsX7_push) := goodIn_app (goodIn_of _ (by decide +kernel)) ggX7_transmit_X7_push
set_option maxRecDepth 20000 in
theorem ggX7_transmit_X7_flowByte : GoodIn wsX7_transmit wsX7_flowByte := goodIn_r _ [23, 2, 24, 25, 26, 12, 27, 28, 53, 54, 55, 56, 57, 58, 59, 60, 61, 62, 63, 64, 65, 66, 67, 68, 69, 70, 71, 72, 73, 74, 75, 76, 77, 78, 79, 80, 81, 82, 83, 84, 85, 86] (by decide +kernel) (by decide +kernel)
set_option maxRecDepth 20000 in
theorem gX7_transmit_X7_flowByte : GoodIn wsX7_transmit (wsV RX7 215 RX7 yX7_flowByte wsX7_flowByte) := goodIn_app (goodIn_of _ (by decide +kernel)) ggX7_transmit_X7_flowByte
set_option maxRecDepth 20000 in
theorem ggX7_transmit_X7_settle : GoodIn wsX7_transmit wsX7_settle := goodIn_r _ [32, 7, 8, 33, 34, 35, 36, 37, 38, 12, 39, 40, 41, 42, 43, 44, 45, 46, 2, 47, 48, 49, 50, 28, 51, 52, 53, 54, 55, 56, 57, 58, 59, 60, 61, 62, 63, 64, 65, 66, 67, 68, 69, 70, 71, 72, 73, 74, 75, 76, 77, 78, 79, 80, 81, 82, 83, 84, 85, 86] (by decide +kernel) (by decide +kernel)
set_option maxRecDepth 20000 in
theorem gX7_transmit_X7_settle : GoodIn wsX7_transmit (wsV RX7 206 RX7 yX7_settle wsX7_settle) := goodIn_app (goodIn_of _ (by decide +kernel)) ggX7_transmit_X7_settle
theorem dX7_transmit_0 : decode cX7_transmit 0 = .ok (.aload_n 0, 1) := by decide +kernel
theorem dX7_transmit_1 : decode cX7_transmit 1 = .ok (.iconst 0, 1) := by decide +kernel
theorem dX7_transmit_2 : decode cX7_transmit 2 = .ok (.putfield 7, 3) := by decide +kernel
theorem dX7_transmit_5 : decode cX7_transmit 5 = .ok (.iload_n 1, 1) := by decide +kernel
theorem dX7_transmit_6 : decode cX7_transmit 6 = .ok (.invokestatic 209, 3) := by decide +kernel
theorem dX7_transmit_9 : decode cX7_transmit 9 = .ok (.ifCond .ne 5, 3) := by decide +kernel
theorem dX7_transmit_12 : decode cX7_transmit 12 = .ok (.iconst (-1), 1) := by decide +kernel
theorem dX7_transmit_13 : decode cX7_transmit 13 = .ok (.ireturn, 1) := by decide +kernel
theorem dX7_transmit_14 : decode cX7_transmit 14 = .ok (.aload_n 0, 1) := by decide +kernel
theorem dX7_transmit_15 : decode cX7_transmit 15 = .ok (.iload_n 1, 1) := by decide +kernel
theorem dX7_transmit_16 : decode cX7_transmit 16 = .ok (.invokevirtual 212, 3) := by decide +kernel
theorem dX7_transmit_19 : decode cX7_transmit 19 = .ok (.aload_n 0, 1) := by decide +kernel
theorem dX7_transmit_20 : decode cX7_transmit 20 = .ok (.iload_n 1, 1) := by decide +kernel
theorem dX7_transmit_21 : decode cX7_transmit 21 = .ok (.invokevirtual 215, 3) := by decide +kernel
theorem dX7_transmit_24 : decode cX7_transmit 24 = .ok (.istore_n 2, 1) := by decide +kernel
theorem dX7_transmit_25 : decode cX7_transmit 25 = .ok (.aload_n 0, 1) := by decide +kernel
theorem dX7_transmit_26 : decode cX7_transmit 26 = .ok (.getfield 66, 3) := by decide +kernel
theorem dX7_transmit_29 : decode cX7_transmit 29 = .ok (.iload_n 1, 1) := by decide +kernel
theorem dX7_transmit_30 : decode cX7_transmit 30 = .ok (.iconst 0, 1) := by decide +kernel
theorem dX7_transmit_31 : decode cX7_transmit 31 = .ok (.iastore, 1) := by decide +kernel
theorem dX7_transmit_32 : decode cX7_transmit 32 = .ok (.iload_n 2, 1) := by decide +kernel
theorem dX7_transmit_33 : decode cX7_transmit 33 = .ok (.ifCond .ge 137, 3) := by decide +kernel
theorem dX7_transmit_36 : decode cX7_transmit 36 = .ok (.aload_n 0, 1) := by decide +kernel
theorem dX7_transmit_37 : decode cX7_transmit 37 = .ok (.getfield 54, 3) := by decide +kernel
theorem dX7_transmit_40 : decode cX7_transmit 40 = .ok (.iload_n 1, 1) := by decide +kernel
theorem dX7_transmit_41 : decode cX7_transmit 41 = .ok (.baload, 1) := by decide +kernel
theorem dX7_transmit_42 : decode cX7_transmit 42 = .ok (.ifCond .ne 128, 3) := by decide +kernel
theorem dX7_transmit_45 : decode cX7_transmit 45 = .ok (.aload_n 0, 1) := by decide +kernel
theorem dX7_transmit_46 : decode cX7_transmit 46 = .ok (.getfield 72, 3) := by decide +kernel
theorem dX7_transmit_49 : decode cX7_transmit 49 = .ok (.iload_n 1, 1) := by decide +kernel
theorem dX7_transmit_50 : decode cX7_transmit 50 = .ok (.baload, 1) := by decide +kernel
theorem dX7_transmit_51 : decode cX7_transmit 51 = .ok (.ifCond .eq 119, 3) := by decide +kernel
theorem dX7_transmit_54 : decode cX7_transmit 54 = .ok (.aload_n 0, 1) := by decide +kernel
theorem dX7_transmit_55 : decode cX7_transmit 55 = .ok (.getfield 51, 3) := by decide +kernel
theorem dX7_transmit_58 : decode cX7_transmit 58 = .ok (.iload_n 1, 1) := by decide +kernel
theorem dX7_transmit_59 : decode cX7_transmit 59 = .ok (.iaload, 1) := by decide +kernel
theorem dX7_transmit_60 : decode cX7_transmit 60 = .ok (.ifCond .le 110, 3) := by decide +kernel
theorem dX7_transmit_63 : decode cX7_transmit 63 = .ok (.aload_n 0, 1) := by decide +kernel
theorem dX7_transmit_64 : decode cX7_transmit 64 = .ok (.getfield 48, 3) := by decide +kernel
theorem dX7_transmit_67 : decode cX7_transmit 67 = .ok (.bipush 8, 2) := by decide +kernel
theorem dX7_transmit_69 : decode cX7_transmit 69 = .ok (.iload_n 1, 1) := by decide +kernel
theorem dX7_transmit_70 : decode cX7_transmit 70 = .ok (.imul, 1) := by decide +kernel
theorem dX7_transmit_71 : decode cX7_transmit 71 = .ok (.iaload, 1) := by decide +kernel
theorem dX7_transmit_72 : decode cX7_transmit 72 = .ok (.istore_n 2, 1) := by decide +kernel
theorem dX7_transmit_73 : decode cX7_transmit 73 = .ok (.aload_n 0, 1) := by decide +kernel
theorem dX7_transmit_74 : decode cX7_transmit 74 = .ok (.getfield 51, 3) := by decide +kernel
theorem dX7_transmit_77 : decode cX7_transmit 77 = .ok (.iload_n 1, 1) := by decide +kernel
theorem dX7_transmit_78 : decode cX7_transmit 78 = .ok (.dup2, 1) := by decide +kernel
theorem dX7_transmit_79 : decode cX7_transmit 79 = .ok (.iaload, 1) := by decide +kernel
theorem dX7_transmit_80 : decode cX7_transmit 80 = .ok (.iconst 1, 1) := by decide +kernel
theorem dX7_transmit_81 : decode cX7_transmit 81 = .ok (.isub, 1) := by decide +kernel
theorem dX7_transmit_82 : decode cX7_transmit 82 = .ok (.iastore, 1) := by decide +kernel
theorem dX7_transmit_83 : decode cX7_transmit 83 = .ok (.iconst 0, 1) := by decide +kernel
theorem dX7_transmit_84 : decode cX7_transmit 84 = .ok (.istore_n 3, 1) := by decide +kernel
theorem dX7_transmit_85 : decode cX7_transmit 85 = .ok (.iload_n 3, 1) := by decide +kernel
theorem dX7_transmit_86 : decode cX7_transmit 86 = .ok (.aload_n 0, 1) := by decide +kernel
theorem dX7_transmit_87 : decode cX7_transmit 87 = .ok (.getfield 51, 3) := by decide +kernel
theorem dX7_transmit_90 : decode cX7_transmit 90 = .ok (.iload_n 1, 1) := by decide +kernel
theorem dX7_transmit_91 : decode cX7_transmit 91 = .ok (.iaload, 1) := by decide +kernel
theorem dX7_transmit_92 : decode cX7_transmit 92 = .ok (.if_icmp .ge 33, 3) := by decide +kernel
theorem dX7_transmit_95 : decode cX7_transmit 95 = .ok (.aload_n 0, 1) := by decide +kernel
theorem dX7_transmit_96 : decode cX7_transmit 96 = .ok (.getfield 48, 3) := by decide +kernel
theorem dX7_transmit_99 : decode cX7_transmit 99 = .ok (.bipush 8, 2) := by decide +kernel
theorem dX7_transmit_101 : decode cX7_transmit 101 = .ok (.iload_n 1, 1) := by decide +kernel
theorem dX7_transmit_102 : decode cX7_transmit 102 = .ok (.imul, 1) := by decide +kernel
theorem dX7_transmit_103 : decode cX7_transmit 103 = .ok (.iload_n 3, 1) := by decide +kernel
theorem dX7_transmit_104 : decode cX7_transmit 104 = .ok (.iadd, 1) := by decide +kernel
theorem dX7_transmit_105 : decode cX7_transmit 105 = .ok (.aload_n 0, 1) := by decide +kernel
theorem dX7_transmit_106 : decode cX7_transmit 106 = .ok (.getfield 48, 3) := by decide +kernel
theorem dX7_transmit_109 : decode cX7_transmit 109 = .ok (.bipush 8, 2) := by decide +kernel
theorem dX7_transmit_111 : decode cX7_transmit 111 = .ok (.iload_n 1, 1) := by decide +kernel
theorem dX7_transmit_112 : decode cX7_transmit 112 = .ok (.imul, 1) := by decide +kernel
theorem dX7_transmit_113 : decode cX7_transmit 113 = .ok (.iload_n 3, 1) := by decide +kernel
theorem dX7_transmit_114 : decode cX7_transmit 114 = .ok (.iadd, 1) := by decide +kernel
theorem dX7_transmit_115 : decode cX7_transmit 115 = .ok (.iconst 1, 1) := by decide +kernel
theorem dX7_transmit_116 : decode cX7_transmit 116 = .ok (.iadd, 1) := by decide +kernel
theorem dX7_transmit_117 : decode cX7_transmit 117 = .ok (.iaload, 1) := by decide +kernel
theorem dX7_transmit_118 : decode cX7_transmit 118 = .ok (.iastore, 1) := by decide +kernel
theorem dX7_transmit_119 : decode cX7_transmit 119 = .ok (.iinc 3 1, 3) := by decide +kernel
theorem dX7_transmit_122 : decode cX7_transmit 122 = .ok (.goto (-37), 3) := by decide +kernel
theorem dX7_transmit_125 : decode cX7_transmit 125 = .ok (.iconst 0, 1) := by decide +kernel
theorem dX7_transmit_126 : decode cX7_transmit 126 = .ok (.istore_n 3, 1) := by decide +kernel
theorem dX7_transmit_127 : decode cX7_transmit 127 = .ok (.iload_n 3, 1) := by decide +kernel
theorem dX7_transmit_128 : decode cX7_transmit 128 = .ok (.aload_n 0, 1) := by decide +kernel
theorem dX7_transmit_129 : decode cX7_transmit 129 = .ok (.getfield 81, 3) := by decide +kernel
theorem dX7_transmit_132 : decode cX7_transmit 132 = .ok (.iload_n 1, 1) := by decide +kernel
theorem dX7_transmit_133 : decode cX7_transmit 133 = .ok (.iaload, 1) := by decide +kernel
theorem dX7_transmit_134 : decode cX7_transmit 134 = .ok (.if_icmp .ge 36, 3) := by decide +kernel
theorem dX7_transmit_137 : decode cX7_transmit 137 = .ok (.aload_n 0, 1) := by decide +kernel
theorem dX7_transmit_138 : decode cX7_transmit 138 = .ok (.getfield 93, 3) := by decide +kernel
theorem dX7_transmit_141 : decode cX7_transmit 141 = .ok (.iconst 3, 1) := by decide +kernel
theorem dX7_transmit_142 : decode cX7_transmit 142 = .ok (.iload_n 1, 1) := by decide +kernel
theorem dX7_transmit_143 : decode cX7_transmit 143 = .ok (.imul, 1) := by decide +kernel
theorem dX7_transmit_144 : decode cX7_transmit 144 = .ok (.iload_n 3, 1) := by decide +kernel
theorem dX7_transmit_145 : decode cX7_transmit 145 = .ok (.iadd, 1) := by decide +kernel
theorem dX7_transmit_146 : decode cX7_transmit 146 = .ok (.iaload, 1) := by decide +kernel
theorem dX7_transmit_147 : decode cX7_transmit 147 = .ok (.ifCond .le 17, 3) := by decide +kernel
theorem dX7_transmit_150 : decode cX7_transmit 150 = .ok (.aload_n 0, 1) := by decide +kernel
theorem dX7_transmit_151 : decode cX7_transmit 151 = .ok (.getfield 93, 3) := by decide +kernel
theorem dX7_transmit_154 : decode cX7_transmit 154 = .ok (.iconst 3, 1) := by decide +kernel
theorem dX7_transmit_155 : decode cX7_transmit 155 = .ok (.iload_n 1, 1) := by decide +kernel
theorem dX7_transmit_156 : decode cX7_transmit 156 = .ok (.imul, 1) := by decide +kernel
theorem dX7_transmit_157 : decode cX7_transmit 157 = .ok (.iload_n 3, 1) := by decide +kernel
theorem dX7_transmit_158 : decode cX7_transmit 158 = .ok (.iadd, 1) := by decide +kernel
theorem dX7_transmit_159 : decode cX7_transmit 159 = .ok (.dup2, 1) := by decide +kernel
theorem dX7_transmit_160 : decode cX7_transmit 160 = .ok (.iaload, 1) := by decide +kernel
theorem dX7_transmit_161 : decode cX7_transmit 161 = .ok (.iconst 1, 1) := by decide +kernel
theorem dX7_transmit_162 : decode cX7_transmit 162 = .ok (.isub, 1) := by decide +kernel
theorem dX7_transmit_163 : decode cX7_transmit 163 = .ok (.iastore, 1) := by decide +kernel
theorem dX7_transmit_164 : decode cX7_transmit 164 = .ok (.iinc 3 1, 3) := by decide +kernel
theorem dX7_transmit_167 : decode cX7_transmit 167 = .ok (.goto (-40), 3) := by decide +kernel
theorem dX7_transmit_170 : decode cX7_transmit 170 = .ok (.iload_n 2, 1) := by decide +kernel
theorem dX7_transmit_171 : decode cX7_transmit 171 = .ok (.ifCond .lt 17, 3) := by decide +kernel
theorem dX7_transmit_174 : decode cX7_transmit 174 = .ok (.aload_n 0, 1) := by decide +kernel
theorem dX7_transmit_175 : decode cX7_transmit 175 = .ok (.getfield 105, 3) := by decide +kernel
theorem dX7_transmit_178 : decode cX7_transmit 178 = .ok (.iconst 5, 1) := by decide +kernel
theorem dX7_transmit_179 : decode cX7_transmit 179 = .ok (.iload_n 1, 1) := by decide +kernel
theorem dX7_transmit_180 : decode cX7_transmit 180 = .ok (.imul, 1) := by decide +kernel
theorem dX7_transmit_181 : decode cX7_transmit 181 = .ok (.iconst 4, 1) := by decide +kernel
theorem dX7_transmit_182 : decode cX7_transmit 182 = .ok (.iadd, 1) := by decide +kernel
theorem dX7_transmit_183 : decode cX7_transmit 183 = .ok (.dup2, 1) := by decide +kernel
theorem dX7_transmit_184 : decode cX7_transmit 184 = .ok (.iaload, 1) := by decide +kernel
theorem dX7_transmit_185 : decode cX7_transmit 185 = .ok (.iconst 1, 1) := by decide +kernel
theorem dX7_transmit_186 : decode cX7_transmit 186 = .ok (.iadd, 1) := by decide +kernel
theorem dX7_transmit_187 : decode cX7_transmit 187 = .ok (.iastore, 1) := by decide +kernel
theorem dX7_transmit_188 : decode cX7_transmit 188 = .ok (.aload_n 0, 1) := by decide +kernel
theorem dX7_transmit_189 : decode cX7_transmit 189 = .ok (.iload_n 1, 1) := by decide +kernel
theorem dX7_transmit_190 : decode cX7_transmit 190 = .ok (.invokevirtual 212, 3) := by decide +kernel
theorem dX7_transmit_193 : decode cX7_transmit 193 = .ok (.aload_n 0, 1) := by decide +kernel
theorem dX7_transmit_194 : decode cX7_transmit 194 = .ok (.iload_n 1, 1) := by decide +kernel
theorem dX7_transmit_195 : decode cX7_transmit 195 = .ok (.invokevirtual 206, 3) := by decide +kernel
theorem dX7_transmit_198 : decode cX7_transmit 198 = .ok (.iload_n 2, 1) := by decide +kernel
theorem dX7_transmit_199 : decode cX7_transmit 199 = .ok (.ireturn, 1) := by decide +kernel
set_option maxRecDepth 20000 in
theorem ggX7_held_X7_isPort : GoodIn wsX7_held wsX7_isPort := goodIn_r _ [9] (by decide +kernel) (by decide +kernel)
set_option maxRecDepth 20000 in
theorem gX7_held_X7_isPort : GoodIn wsX7_held (va_wsS RX7 209 yX7_isPort wsX7_isPort) := goodIn_app (goodIn_of _ (by decide +kernel)) ggX7_held_X7_isPort
set_option maxRecDepth 20000 in
theorem ggX7_held_X7_flowByte : GoodIn wsX7_held wsX7_flowByte := goodIn_r _ [13, 14, 15, 16, 17, 8, 18, 19, 20, 21, 22, 23, 24, 25, 26, 27, 28, 29, 30, 31, 32, 33, 34, 35, 36, 37, 38, 39, 40, 41, 42, 43, 44, 45, 46, 47, 48, 49, 50, 51, 52, 53] (by decide +kernel) (by decide +kernel)
set_option maxRecDepth 20000 in
theorem gX7_held_X7_flowByte : GoodIn wsX7_held (wsV RX7 215 RX7 yX7_flowByte wsX7_flowByte) := goodIn_app (goodIn_of _ (by decide +kernel)) ggX7_held_X7_flowByte
theorem dX7_held_0 : decode cX7_held 0 = .ok (.aload_n 0, 1) := by decide +kernel
theorem dX7_held_1 : decode cX7_held 1 = .ok (.iconst 0, 1) := by decide +kernel
theorem dX7_held_2 : decode cX7_held 2 = .ok (.putfield 7, 3) := by decide +kernel
theorem dX7_held_5 : decode cX7_held 5 = .ok (.iload_n 1, 1) := by decide +kernel
theorem dX7_held_6 : decode cX7_held 6 = .ok (.invokestatic 209, 3) := by decide +kernel
theorem dX7_held_9 : decode cX7_held 9 = .ok (.ifCond .ne 5, 3) := by decide +kernel
theorem dX7_held_12 : decode cX7_held 12 = .ok (.iconst (-1), 1) := by decide +kernel
theorem dX7_held_13 : decode cX7_held 13 = .ok (.ireturn, 1) := by decide +kernel
theorem dX7_held_14 : decode cX7_held 14 = .ok (.aload_n 0, 1) := by decide +kernel
theorem dX7_held_15 : decode cX7_held 15 = .ok (.iload_n 1, 1) := by decide +kernel
theorem dX7_held_16 : decode cX7_held 16 = .ok (.invokevirtual 215, 3) := by decide +kernel
theorem dX7_held_19 : decode cX7_held 19 = .ok (.ifCond .lt 5, 3) := by decide +kernel
theorem dX7_held_22 : decode cX7_held 22 = .ok (.iconst 0, 1) := by decide +kernel
theorem dX7_held_23 : decode cX7_held 23 = .ok (.ireturn, 1) := by decide +kernel
theorem dX7_held_24 : decode cX7_held 24 = .ok (.aload_n 0, 1) := by decide +kernel
theorem dX7_held_25 : decode cX7_held 25 = .ok (.getfield 45, 3) := by decide +kernel
theorem dX7_held_28 : decode cX7_held 28 = .ok (.iload_n 1, 1) := by decide +kernel
theorem dX7_held_29 : decode cX7_held 29 = .ok (.iaload, 1) := by decide +kernel
theorem dX7_held_30 : decode cX7_held 30 = .ok (.aload_n 0, 1) := by decide +kernel
theorem dX7_held_31 : decode cX7_held 31 = .ok (.getfield 51, 3) := by decide +kernel
theorem dX7_held_34 : decode cX7_held 34 = .ok (.iload_n 1, 1) := by decide +kernel
theorem dX7_held_35 : decode cX7_held 35 = .ok (.iaload, 1) := by decide +kernel
theorem dX7_held_36 : decode cX7_held 36 = .ok (.iadd, 1) := by decide +kernel
theorem dX7_held_37 : decode cX7_held 37 = .ok (.ifCond .ne 5, 3) := by decide +kernel
theorem dX7_held_40 : decode cX7_held 40 = .ok (.iconst 1, 1) := by decide +kernel
theorem dX7_held_41 : decode cX7_held 41 = .ok (.ireturn, 1) := by decide +kernel
theorem dX7_held_42 : decode cX7_held 42 = .ok (.aload_n 0, 1) := by decide +kernel
theorem dX7_held_43 : decode cX7_held 43 = .ok (.getfield 54, 3) := by decide +kernel
theorem dX7_held_46 : decode cX7_held 46 = .ok (.iload_n 1, 1) := by decide +kernel
theorem dX7_held_47 : decode cX7_held 47 = .ok (.baload, 1) := by decide +kernel
theorem dX7_held_48 : decode cX7_held 48 = .ok (.ifCond .eq 5, 3) := by decide +kernel
theorem dX7_held_51 : decode cX7_held 51 = .ok (.iconst 2, 1) := by decide +kernel
theorem dX7_held_52 : decode cX7_held 52 = .ok (.ireturn, 1) := by decide +kernel
theorem dX7_held_53 : decode cX7_held 53 = .ok (.aload_n 0, 1) := by decide +kernel
theorem dX7_held_54 : decode cX7_held 54 = .ok (.getfield 72, 3) := by decide +kernel
theorem dX7_held_57 : decode cX7_held 57 = .ok (.iload_n 1, 1) := by decide +kernel
theorem dX7_held_58 : decode cX7_held 58 = .ok (.baload, 1) := by decide +kernel
theorem dX7_held_59 : decode cX7_held 59 = .ok (.ifCond .ne 5, 3) := by decide +kernel
theorem dX7_held_62 : decode cX7_held 62 = .ok (.iconst 3, 1) := by decide +kernel
theorem dX7_held_63 : decode cX7_held 63 = .ok (.ireturn, 1) := by decide +kernel
theorem dX7_held_64 : decode cX7_held 64 = .ok (.iconst 0, 1) := by decide +kernel
theorem dX7_held_65 : decode cX7_held 65 = .ok (.ireturn, 1) := by decide +kernel
set_option maxRecDepth 20000 in
theorem ggX7_carrier_X7_isPort : GoodIn wsX7_carrier wsX7_isPort := goodIn_r _ [8] (by decide +kernel) (by decide +kernel)
set_option maxRecDepth 20000 in
theorem gX7_carrier_X7_isPort : GoodIn wsX7_carrier (va_wsS RX7 209 yX7_isPort wsX7_isPort) := goodIn_app (goodIn_of _ (by decide +kernel)) ggX7_carrier_X7_isPort
set_option maxRecDepth 20000 in
theorem ggX7_carrier_X7_raise : GoodIn wsX7_carrier wsX7_raise := goodIn_r _ [12, 13, 14, 49, 50, 51, 52, 53, 54, 55, 56, 57, 58, 59, 60, 61, 62, 63, 64, 65, 66, 67, 68, 69, 70, 71, 72, 73, 74, 75, 76, 77, 78, 79, 80, 81, 82] (by decide +kernel) (by decide +kernel)
set_option maxRecDepth 20000 in
theorem gX7_carrier_X7_raise : GoodIn wsX7_carrier (wsV RX7 171 RX7 yX7_raise wsX7_raise) := goodIn_app (goodIn_of _ (by decide +kernel)) ggX7_carrier_X7_raise
set_option maxRecDepth 20000 in
theorem ggX7_carrier_X7_emptyAll : GoodIn wsX7_carrier wsX7_emptyAll := goodIn_r _ [18, 19, 20, 21, 22, 23, 24, 25, 7, 26, 27, 28, 29, 30, 31, 32, 33, 34, 35, 36, 37, 38, 39, 40, 41, 42, 43, 44, 45, 46, 47, 48, 49, 50, 51, 52, 53, 54, 55, 56, 57, 58, 59, 60, 61, 62, 63, 64, 65, 66, 67, 68, 69, 70, 71, 72, 73, 74, 75, 76, 77, 78, 79, 80, 81, 82] (by decide +kernel) (by decide +kernel)
set_option maxRecDepth 20000 in
theorem gX7_carrier_X7_emptyAll : GoodIn wsX7_carrier (wsV RX7 218 RX7 yX7_emptyAll wsX7_emptyAll) := goodIn_app (goodIn_of _ (by decide +kernel)) ggX7_carrier_X7_emptyAll
theorem dX7_carrier_0 : decode cX7_carrier 0 = .ok (.aload_n 0, 1) := by decide +kernel
theorem dX7_carrier_1 : decode cX7_carrier 1 = .ok (.iconst 0, 1) := by decide +kernel
theorem dX7_carrier_2 : decode cX7_carrier 2 = .ok (.putfield 7, 3) := by decide +kernel
theorem dX7_carrier_5 : decode cX7_carrier 5 = .ok (.iload_n 1, 1) := by decide +kernel
theorem dX7_carrier_6 : decode cX7_carrier 6 = .ok (.invokestatic 209, 3) := by decide +kernel
theorem dX7_carrier_9 : decode cX7_carrier 9 = .ok (.ifCond .ne 5, 3) := by decide +kernel
theorem dX7_carrier_12 : decode cX7_carrier 12 = .ok (.iconst 0, 1) := by decide +kernel
theorem dX7_carrier_13 : decode cX7_carrier 13 = .ok (.ireturn, 1) := by decide +kernel
theorem dX7_carrier_14 : decode cX7_carrier 14 = .ok (.aload_n 0, 1) := by decide +kernel
theorem dX7_carrier_15 : decode cX7_carrier 15 = .ok (.getfield 69, 3) := by decide +kernel
theorem dX7_carrier_18 : decode cX7_carrier 18 = .ok (.iload_n 1, 1) := by decide +kernel
theorem dX7_carrier_19 : decode cX7_carrier 19 = .ok (.baload, 1) := by decide +kernel
theorem dX7_carrier_20 : decode cX7_carrier 20 = .ok (.ifCond .eq 11, 3) := by decide +kernel
theorem dX7_carrier_23 : decode cX7_carrier 23 = .ok (.iload_n 2, 1) := by decide +kernel
theorem dX7_carrier_24 : decode cX7_carrier 24 = .ok (.ifCond .ne 7, 3) := by decide +kernel
theorem dX7_carrier_27 : decode cX7_carrier 27 = .ok (.iconst 1, 1) := by decide +kernel
theorem dX7_carrier_28 : decode cX7_carrier 28 = .ok (.goto 4, 3) := by decide +kernel
theorem dX7_carrier_31 : decode cX7_carrier 31 = .ok (.iconst 0, 1) := by decide +kernel
theorem dX7_carrier_32 : decode cX7_carrier 32 = .ok (.istore_n 3, 1) := by decide +kernel
theorem dX7_carrier_33 : decode cX7_carrier 33 = .ok (.aload_n 0, 1) := by decide +kernel
theorem dX7_carrier_34 : decode cX7_carrier 34 = .ok (.getfield 69, 3) := by decide +kernel
theorem dX7_carrier_37 : decode cX7_carrier 37 = .ok (.iload_n 1, 1) := by decide +kernel
theorem dX7_carrier_38 : decode cX7_carrier 38 = .ok (.iload_n 2, 1) := by decide +kernel
theorem dX7_carrier_39 : decode cX7_carrier 39 = .ok (.bastore, 1) := by decide +kernel
theorem dX7_carrier_40 : decode cX7_carrier 40 = .ok (.iload_n 3, 1) := by decide +kernel
theorem dX7_carrier_41 : decode cX7_carrier 41 = .ok (.ifCond .eq 27, 3) := by decide +kernel
theorem dX7_carrier_44 : decode cX7_carrier 44 = .ok (.aload_n 0, 1) := by decide +kernel
theorem dX7_carrier_45 : decode cX7_carrier 45 = .ok (.getfield 75, 3) := by decide +kernel
theorem dX7_carrier_48 : decode cX7_carrier 48 = .ok (.iload_n 1, 1) := by decide +kernel
theorem dX7_carrier_49 : decode cX7_carrier 49 = .ok (.iconst 1, 1) := by decide +kernel
theorem dX7_carrier_50 : decode cX7_carrier 50 = .ok (.bastore, 1) := by decide +kernel
theorem dX7_carrier_51 : decode cX7_carrier 51 = .ok (.aload_n 0, 1) := by decide +kernel
theorem dX7_carrier_52 : decode cX7_carrier 52 = .ok (.aload_n 0, 1) := by decide +kernel
theorem dX7_carrier_53 : decode cX7_carrier 53 = .ok (.getfield 78, 3) := by decide +kernel
theorem dX7_carrier_56 : decode cX7_carrier 56 = .ok (.iload_n 1, 1) := by decide +kernel
theorem dX7_carrier_57 : decode cX7_carrier 57 = .ok (.iaload, 1) := by decide +kernel
theorem dX7_carrier_58 : decode cX7_carrier 58 = .ok (.bipush 8, 2) := by decide +kernel
theorem dX7_carrier_60 : decode cX7_carrier 60 = .ok (.invokevirtual 171, 3) := by decide +kernel
theorem dX7_carrier_63 : decode cX7_carrier 63 = .ok (.aload_n 0, 1) := by decide +kernel
theorem dX7_carrier_64 : decode cX7_carrier 64 = .ok (.iload_n 1, 1) := by decide +kernel
theorem dX7_carrier_65 : decode cX7_carrier 65 = .ok (.invokevirtual 218, 3) := by decide +kernel
theorem dX7_carrier_68 : decode cX7_carrier 68 = .ok (.iconst 1, 1) := by decide +kernel
theorem dX7_carrier_69 : decode cX7_carrier 69 = .ok (.ireturn, 1) := by decide +kernel
set_option maxRecDepth 20000 in
theorem ggX7_clear_X7_isPort : GoodIn wsX7_clear wsX7_isPort := goodIn_r _ [6] (by decide +kernel) (by decide +kernel)
set_option maxRecDepth 20000 in
theorem gX7_clear_X7_isPort : GoodIn wsX7_clear (va_wsS RX7 209 yX7_isPort wsX7_isPort) := goodIn_app (goodIn_of _ (by decide +kernel)) ggX7_clear_X7_isPort
theorem dX7_clear_0 : decode cX7_clear 0 = .ok (.aload_n 0, 1) := by decide +kernel
theorem dX7_clear_1 : decode cX7_clear 1 = .ok (.iconst 0, 1) := by decide +kernel
theorem dX7_clear_2 : decode cX7_clear 2 = .ok (.putfield 7, 3) := by decide +kernel
theorem dX7_clear_5 : decode cX7_clear 5 = .ok (.iload_n 1, 1) := by decide +kernel
theorem dX7_clear_6 : decode cX7_clear 6 = .ok (.invokestatic 209, 3) := by decide +kernel
theorem dX7_clear_9 : decode cX7_clear 9 = .ok (.ifCond .ne 5, 3) := by decide +kernel
theorem dX7_clear_12 : decode cX7_clear 12 = .ok (.iconst 0, 1) := by decide +kernel
theorem dX7_clear_13 : decode cX7_clear 13 = .ok (.ireturn, 1) := by decide +kernel
theorem dX7_clear_14 : decode cX7_clear 14 = .ok (.aload_n 0, 1) := by decide +kernel
theorem dX7_clear_15 : decode cX7_clear 15 = .ok (.getfield 72, 3) := by decide +kernel
theorem dX7_clear_18 : decode cX7_clear 18 = .ok (.iload_n 1, 1) := by decide +kernel
theorem dX7_clear_19 : decode cX7_clear 19 = .ok (.iload_n 2, 1) := by decide +kernel
theorem dX7_clear_20 : decode cX7_clear 20 = .ok (.bastore, 1) := by decide +kernel
theorem dX7_clear_21 : decode cX7_clear 21 = .ok (.iconst 1, 1) := by decide +kernel
theorem dX7_clear_22 : decode cX7_clear 22 = .ok (.ireturn, 1) := by decide +kernel
set_option maxRecDepth 20000 in
theorem ggX7_open_X7_isProcess : GoodIn wsX7_open wsX7_isProcess := goodIn_r _ [8] (by decide +kernel) (by decide +kernel)
set_option maxRecDepth 20000 in
theorem gX7_open_X7_isProcess : GoodIn wsX7_open (va_wsS RX7 221 yX7_isProcess wsX7_isProcess) := goodIn_app (goodIn_of _ (by decide +kernel)) ggX7_open_X7_isProcess
set_option maxRecDepth 20000 in
theorem ggX7_open_X7_isPort : GoodIn wsX7_open wsX7_isPort := goodIn_r _ [11] (by decide +kernel) (by decide +kernel)
set_option maxRecDepth 20000 in
theorem gX7_open_X7_isPort : GoodIn wsX7_open (va_wsS RX7 209 yX7_isPort wsX7_isPort) := goodIn_app (goodIn_of _ (by decide +kernel)) ggX7_open_X7_isPort
theorem dX7_open_0 : decode cX7_open 0 = .ok (.aload_n 0, 1) := by decide +kernel
theorem dX7_open_1 : decode cX7_open 1 = .ok (.iconst 0, 1) := by decide +kernel
theorem dX7_open_2 : decode cX7_open 2 = .ok (.putfield 7, 3) := by decide +kernel
theorem dX7_open_5 : decode cX7_open 5 = .ok (.iload_n 1, 1) := by decide +kernel
theorem dX7_open_6 : decode cX7_open 6 = .ok (.invokestatic 221, 3) := by decide +kernel
theorem dX7_open_9 : decode cX7_open 9 = .ok (.ifCond .eq 19, 3) := by decide +kernel
theorem dX7_open_12 : decode cX7_open 12 = .ok (.iload_n 2, 1) := by decide +kernel
theorem dX7_open_13 : decode cX7_open 13 = .ok (.invokestatic 209, 3) := by decide +kernel
theorem dX7_open_16 : decode cX7_open 16 = .ok (.ifCond .eq 12, 3) := by decide +kernel
theorem dX7_open_19 : decode cX7_open 19 = .ok (.aload_n 0, 1) := by decide +kernel
theorem dX7_open_20 : decode cX7_open 20 = .ok (.getfield 69, 3) := by decide +kernel
theorem dX7_open_23 : decode cX7_open 23 = .ok (.iload_n 2, 1) := by decide +kernel
theorem dX7_open_24 : decode cX7_open 24 = .ok (.baload, 1) := by decide +kernel
theorem dX7_open_25 : decode cX7_open 25 = .ok (.ifCond .ne 5, 3) := by decide +kernel
theorem dX7_open_28 : decode cX7_open 28 = .ok (.iconst 0, 1) := by decide +kernel
theorem dX7_open_29 : decode cX7_open 29 = .ok (.ireturn, 1) := by decide +kernel
theorem dX7_open_30 : decode cX7_open 30 = .ok (.aload_n 0, 1) := by decide +kernel
theorem dX7_open_31 : decode cX7_open 31 = .ok (.getfield 96, 3) := by decide +kernel
theorem dX7_open_34 : decode cX7_open 34 = .ok (.bipush 8, 2) := by decide +kernel
theorem dX7_open_36 : decode cX7_open 36 = .ok (.iload_n 2, 1) := by decide +kernel
theorem dX7_open_37 : decode cX7_open 37 = .ok (.imul, 1) := by decide +kernel
theorem dX7_open_38 : decode cX7_open 38 = .ok (.iload_n 1, 1) := by decide +kernel
theorem dX7_open_39 : decode cX7_open 39 = .ok (.iadd, 1) := by decide +kernel
theorem dX7_open_40 : decode cX7_open 40 = .ok (.baload, 1) := by decide +kernel
theorem dX7_open_41 : decode cX7_open 41 = .ok (.ifCond .eq 14, 3) := by decide +kernel
theorem dX7_open_44 : decode cX7_open 44 = .ok (.aload_n 0, 1) := by decide +kernel
theorem dX7_open_45 : decode cX7_open 45 = .ok (.getfield 75, 3) := by decide +kernel
theorem dX7_open_48 : decode cX7_open 48 = .ok (.iload_n 2, 1) := by decide +kernel
theorem dX7_open_49 : decode cX7_open 49 = .ok (.baload, 1) := by decide +kernel
theorem dX7_open_50 : decode cX7_open 50 = .ok (.ifCond .ne 5, 3) := by decide +kernel
theorem dX7_open_53 : decode cX7_open 53 = .ok (.iconst 0, 1) := by decide +kernel
theorem dX7_open_54 : decode cX7_open 54 = .ok (.ireturn, 1) := by decide +kernel
theorem dX7_open_55 : decode cX7_open 55 = .ok (.aload_n 0, 1) := by decide +kernel
theorem dX7_open_56 : decode cX7_open 56 = .ok (.getfield 75, 3) := by decide +kernel
theorem dX7_open_59 : decode cX7_open 59 = .ok (.iload_n 2, 1) := by decide +kernel
theorem dX7_open_60 : decode cX7_open 60 = .ok (.baload, 1) := by decide +kernel
theorem dX7_open_61 : decode cX7_open 61 = .ok (.ifCond .eq 29, 3) := by decide +kernel
theorem dX7_open_64 : decode cX7_open 64 = .ok (.iconst 0, 1) := by decide +kernel
theorem dX7_open_65 : decode cX7_open 65 = .ok (.istore_n 3, 1) := by decide +kernel
theorem dX7_open_66 : decode cX7_open 66 = .ok (.iload_n 3, 1) := by decide +kernel
theorem dX7_open_67 : decode cX7_open 67 = .ok (.bipush 8, 2) := by decide +kernel
theorem dX7_open_69 : decode cX7_open 69 = .ok (.if_icmp .ge 21, 3) := by decide +kernel
theorem dX7_open_72 : decode cX7_open 72 = .ok (.aload_n 0, 1) := by decide +kernel
theorem dX7_open_73 : decode cX7_open 73 = .ok (.getfield 96, 3) := by decide +kernel
theorem dX7_open_76 : decode cX7_open 76 = .ok (.bipush 8, 2) := by decide +kernel
theorem dX7_open_78 : decode cX7_open 78 = .ok (.iload_n 2, 1) := by decide +kernel
theorem dX7_open_79 : decode cX7_open 79 = .ok (.imul, 1) := by decide +kernel
theorem dX7_open_80 : decode cX7_open 80 = .ok (.iload_n 3, 1) := by decide +kernel
theorem dX7_open_81 : decode cX7_open 81 = .ok (.iadd, 1) := by decide +kernel
theorem dX7_open_82 : decode cX7_open 82 = .ok (.iconst 0, 1) := by decide +kernel
theorem dX7_open_83 : decode cX7_open 83 = .ok (.bastore, 1) := by decide +kernel
theorem dX7_open_84 : decode cX7_open 84 = .ok (.iinc 3 1, 3) := by decide +kernel
theorem dX7_open_87 : decode cX7_open 87 = .ok (.goto (-21), 3) := by decide +kernel
theorem dX7_open_90 : decode cX7_open 90 = .ok (.aload_n 0, 1) := by decide +kernel
theorem dX7_open_91 : decode cX7_open 91 = .ok (.getfield 75, 3) := by decide +kernel
theorem dX7_open_94 : decode cX7_open 94 = .ok (.iload_n 2, 1) := by decide +kernel
theorem dX7_open_95 : decode cX7_open 95 = .ok (.iconst 0, 1) := by decide +kernel
theorem dX7_open_96 : decode cX7_open 96 = .ok (.bastore, 1) := by decide +kernel
theorem dX7_open_97 : decode cX7_open 97 = .ok (.aload_n 0, 1) := by decide +kernel
theorem dX7_open_98 : decode cX7_open 98 = .ok (.getfield 96, 3) := by decide +kernel
theorem dX7_open_101 : decode cX7_open 101 = .ok (.bipush 8, 2) := by decide +kernel
theorem dX7_open_103 : decode cX7_open 103 = .ok (.iload_n 2, 1) := by decide +kernel
theorem dX7_open_104 : decode cX7_open 104 = .ok (.imul, 1) := by decide +kernel
theorem dX7_open_105 : decode cX7_open 105 = .ok (.iload_n 1, 1) := by decide +kernel
theorem dX7_open_106 : decode cX7_open 106 = .ok (.iadd, 1) := by decide +kernel
theorem dX7_open_107 : decode cX7_open 107 = .ok (.iconst 1, 1) := by decide +kernel
theorem dX7_open_108 : decode cX7_open 108 = .ok (.bastore, 1) := by decide +kernel
theorem dX7_open_109 : decode cX7_open 109 = .ok (.iconst 1, 1) := by decide +kernel
theorem dX7_open_110 : decode cX7_open 110 = .ok (.ireturn, 1) := by decide +kernel
set_option maxRecDepth 20000 in
theorem ggX7_close_X7_isProcess : GoodIn wsX7_close wsX7_isProcess := goodIn_r _ [6] (by decide +kernel) (by decide +kernel)
set_option maxRecDepth 20000 in
theorem gX7_close_X7_isProcess : GoodIn wsX7_close (va_wsS RX7 221 yX7_isProcess wsX7_isProcess) := goodIn_app (goodIn_of _ (by decide +kernel)) ggX7_close_X7_isProcess
set_option maxRecDepth 20000 in
theorem ggX7_close_X7_isPort : GoodIn wsX7_close wsX7_isPort := goodIn_r _ [9] (by decide +kernel) (by decide +kernel)
set_option maxRecDepth 20000 in
theorem gX7_close_X7_isPort : GoodIn wsX7_close (va_wsS RX7 209 yX7_isPort wsX7_isPort) := goodIn_app (goodIn_of _ (by decide +kernel)) ggX7_close_X7_isPort
theorem dX7_close_0 : decode cX7_close 0 = .ok (.aload_n 0, 1) := by decide +kernel
theorem dX7_close_1 : decode cX7_close 1 = .ok (.iconst 0, 1) := by decide +kernel
theorem dX7_close_2 : decode cX7_close 2 = .ok (.putfield 7, 3) := by decide +kernel
theorem dX7_close_5 : decode cX7_close 5 = .ok (.iload_n 1, 1) := by decide +kernel
theorem dX7_close_6 : decode cX7_close 6 = .ok (.invokestatic 221, 3) := by decide +kernel
theorem dX7_close_9 : decode cX7_close 9 = .ok (.ifCond .eq 24, 3) := by decide +kernel
theorem dX7_close_12 : decode cX7_close 12 = .ok (.iload_n 2, 1) := by decide +kernel
theorem dX7_close_13 : decode cX7_close 13 = .ok (.invokestatic 209, 3) := by decide +kernel
theorem dX7_close_16 : decode cX7_close 16 = .ok (.ifCond .eq 17, 3) := by decide +kernel
theorem dX7_close_19 : decode cX7_close 19 = .ok (.aload_n 0, 1) := by decide +kernel
theorem dX7_close_20 : decode cX7_close 20 = .ok (.getfield 96, 3) := by decide +kernel
theorem dX7_close_23 : decode cX7_close 23 = .ok (.bipush 8, 2) := by decide +kernel
theorem dX7_close_25 : decode cX7_close 25 = .ok (.iload_n 2, 1) := by decide +kernel
theorem dX7_close_26 : decode cX7_close 26 = .ok (.imul, 1) := by decide +kernel
theorem dX7_close_27 : decode cX7_close 27 = .ok (.iload_n 1, 1) := by decide +kernel
theorem dX7_close_28 : decode cX7_close 28 = .ok (.iadd, 1) := by decide +kernel
theorem dX7_close_29 : decode cX7_close 29 = .ok (.baload, 1) := by decide +kernel
theorem dX7_close_30 : decode cX7_close 30 = .ok (.ifCond .ne 5, 3) := by decide +kernel
theorem dX7_close_33 : decode cX7_close 33 = .ok (.iconst 0, 1) := by decide +kernel
theorem dX7_close_34 : decode cX7_close 34 = .ok (.ireturn, 1) := by decide +kernel
theorem dX7_close_35 : decode cX7_close 35 = .ok (.aload_n 0, 1) := by decide +kernel
theorem dX7_close_36 : decode cX7_close 36 = .ok (.getfield 96, 3) := by decide +kernel
theorem dX7_close_39 : decode cX7_close 39 = .ok (.bipush 8, 2) := by decide +kernel
theorem dX7_close_41 : decode cX7_close 41 = .ok (.iload_n 2, 1) := by decide +kernel
theorem dX7_close_42 : decode cX7_close 42 = .ok (.imul, 1) := by decide +kernel
theorem dX7_close_43 : decode cX7_close 43 = .ok (.iload_n 1, 1) := by decide +kernel
theorem dX7_close_44 : decode cX7_close 44 = .ok (.iadd, 1) := by decide +kernel
theorem dX7_close_45 : decode cX7_close 45 = .ok (.iconst 0, 1) := by decide +kernel
theorem dX7_close_46 : decode cX7_close 46 = .ok (.bastore, 1) := by decide +kernel
theorem dX7_close_47 : decode cX7_close 47 = .ok (.iconst 1, 1) := by decide +kernel
theorem dX7_close_48 : decode cX7_close 48 = .ok (.ireturn, 1) := by decide +kernel
set_option maxRecDepth 20000 in
theorem ggX7_join_X7_isProcess : GoodIn wsX7_join wsX7_isProcess := goodIn_r _ [6] (by decide +kernel) (by decide +kernel)
set_option maxRecDepth 20000 in
theorem gX7_join_X7_isProcess : GoodIn wsX7_join (va_wsS RX7 221 yX7_isProcess wsX7_isProcess) := goodIn_app (goodIn_of _ (by decide +kernel)) ggX7_join_X7_isProcess
theorem dX7_join_0 : decode cX7_join 0 = .ok (.aload_n 0, 1) := by decide +kernel
theorem dX7_join_1 : decode cX7_join 1 = .ok (.iconst 0, 1) := by decide +kernel
theorem dX7_join_2 : decode cX7_join 2 = .ok (.putfield 7, 3) := by decide +kernel
theorem dX7_join_5 : decode cX7_join 5 = .ok (.iload_n 1, 1) := by decide +kernel
theorem dX7_join_6 : decode cX7_join 6 = .ok (.invokestatic 221, 3) := by decide +kernel
theorem dX7_join_9 : decode cX7_join 9 = .ok (.ifCond .eq 10, 3) := by decide +kernel
theorem dX7_join_12 : decode cX7_join 12 = .ok (.iload_n 2, 1) := by decide +kernel
theorem dX7_join_13 : decode cX7_join 13 = .ok (.invokestatic 221, 3) := by decide +kernel
theorem dX7_join_16 : decode cX7_join 16 = .ok (.ifCond .ne 5, 3) := by decide +kernel
theorem dX7_join_19 : decode cX7_join 19 = .ok (.iconst 0, 1) := by decide +kernel
theorem dX7_join_20 : decode cX7_join 20 = .ok (.ireturn, 1) := by decide +kernel
theorem dX7_join_21 : decode cX7_join 21 = .ok (.aload_n 0, 1) := by decide +kernel
theorem dX7_join_22 : decode cX7_join 22 = .ok (.getfield 99, 3) := by decide +kernel
theorem dX7_join_25 : decode cX7_join 25 = .ok (.iload_n 1, 1) := by decide +kernel
theorem dX7_join_26 : decode cX7_join 26 = .ok (.iload_n 2, 1) := by decide +kernel
theorem dX7_join_27 : decode cX7_join 27 = .ok (.iastore, 1) := by decide +kernel
theorem dX7_join_28 : decode cX7_join 28 = .ok (.iconst 1, 1) := by decide +kernel
theorem dX7_join_29 : decode cX7_join 29 = .ok (.ireturn, 1) := by decide +kernel
set_option maxRecDepth 20000 in
theorem ggX7_foreground_X7_isPort : GoodIn wsX7_foreground wsX7_isPort := goodIn_r _ [6] (by decide +kernel) (by decide +kernel)
set_option maxRecDepth 20000 in
theorem gX7_foreground_X7_isPort : GoodIn wsX7_foreground (va_wsS RX7 209 yX7_isPort wsX7_isPort) := goodIn_app (goodIn_of _ (by decide +kernel)) ggX7_foreground_X7_isPort
theorem dX7_foreground_0 : decode cX7_foreground 0 = .ok (.aload_n 0, 1) := by decide +kernel
theorem dX7_foreground_1 : decode cX7_foreground 1 = .ok (.iconst 0, 1) := by decide +kernel
theorem dX7_foreground_2 : decode cX7_foreground 2 = .ok (.putfield 7, 3) := by decide +kernel
theorem dX7_foreground_5 : decode cX7_foreground 5 = .ok (.iload_n 1, 1) := by decide +kernel
theorem dX7_foreground_6 : decode cX7_foreground 6 = .ok (.invokestatic 209, 3) := by decide +kernel
theorem dX7_foreground_9 : decode cX7_foreground 9 = .ok (.ifCond .eq 14, 3) := by decide +kernel
theorem dX7_foreground_12 : decode cX7_foreground 12 = .ok (.iload_n 2, 1) := by decide +kernel
theorem dX7_foreground_13 : decode cX7_foreground 13 = .ok (.iconst (-1), 1) := by decide +kernel
theorem dX7_foreground_14 : decode cX7_foreground 14 = .ok (.if_icmp .lt 9, 3) := by decide +kernel
theorem dX7_foreground_17 : decode cX7_foreground 17 = .ok (.iload_n 2, 1) := by decide +kernel
theorem dX7_foreground_18 : decode cX7_foreground 18 = .ok (.bipush 7, 2) := by decide +kernel
theorem dX7_foreground_20 : decode cX7_foreground 20 = .ok (.if_icmp .le 5, 3) := by decide +kernel
theorem dX7_foreground_23 : decode cX7_foreground 23 = .ok (.iconst 0, 1) := by decide +kernel
theorem dX7_foreground_24 : decode cX7_foreground 24 = .ok (.ireturn, 1) := by decide +kernel
theorem dX7_foreground_25 : decode cX7_foreground 25 = .ok (.aload_n 0, 1) := by decide +kernel
theorem dX7_foreground_26 : decode cX7_foreground 26 = .ok (.getfield 78, 3) := by decide +kernel
theorem dX7_foreground_29 : decode cX7_foreground 29 = .ok (.iload_n 1, 1) := by decide +kernel
theorem dX7_foreground_30 : decode cX7_foreground 30 = .ok (.iload_n 2, 1) := by decide +kernel
theorem dX7_foreground_31 : decode cX7_foreground 31 = .ok (.iastore, 1) := by decide +kernel
theorem dX7_foreground_32 : decode cX7_foreground 32 = .ok (.iconst 1, 1) := by decide +kernel
theorem dX7_foreground_33 : decode cX7_foreground 33 = .ok (.ireturn, 1) := by decide +kernel
theorem dX7_isBehind_0 : decode cX7_isBehind 0 = .ok (.aload_n 0, 1) := by decide +kernel
theorem dX7_isBehind_1 : decode cX7_isBehind 1 = .ok (.getfield 78, 3) := by decide +kernel
theorem dX7_isBehind_4 : decode cX7_isBehind 4 = .ok (.iload_n 2, 1) := by decide +kernel
theorem dX7_isBehind_5 : decode cX7_isBehind 5 = .ok (.iaload, 1) := by decide +kernel
theorem dX7_isBehind_6 : decode cX7_isBehind 6 = .ok (.ifCond .lt 22, 3) := by decide +kernel
theorem dX7_isBehind_9 : decode cX7_isBehind 9 = .ok (.aload_n 0, 1) := by decide +kernel
theorem dX7_isBehind_10 : decode cX7_isBehind 10 = .ok (.getfield 99, 3) := by decide +kernel
theorem dX7_isBehind_13 : decode cX7_isBehind 13 = .ok (.iload_n 1, 1) := by decide +kernel
theorem dX7_isBehind_14 : decode cX7_isBehind 14 = .ok (.iaload, 1) := by decide +kernel
theorem dX7_isBehind_15 : decode cX7_isBehind 15 = .ok (.aload_n 0, 1) := by decide +kernel
theorem dX7_isBehind_16 : decode cX7_isBehind 16 = .ok (.getfield 78, 3) := by decide +kernel
theorem dX7_isBehind_19 : decode cX7_isBehind 19 = .ok (.iload_n 2, 1) := by decide +kernel
theorem dX7_isBehind_20 : decode cX7_isBehind 20 = .ok (.iaload, 1) := by decide +kernel
theorem dX7_isBehind_21 : decode cX7_isBehind 21 = .ok (.if_icmp .eq 7, 3) := by decide +kernel
theorem dX7_isBehind_24 : decode cX7_isBehind 24 = .ok (.iconst 1, 1) := by decide +kernel
theorem dX7_isBehind_25 : decode cX7_isBehind 25 = .ok (.goto 4, 3) := by decide +kernel
theorem dX7_isBehind_28 : decode cX7_isBehind 28 = .ok (.iconst 0, 1) := by decide +kernel
theorem dX7_isBehind_29 : decode cX7_isBehind 29 = .ok (.ireturn, 1) := by decide +kernel
set_option maxRecDepth 20000 in
theorem ggX7_write_X7_isProcess : GoodIn wsX7_write wsX7_isProcess := goodIn_r _ [10] (by decide +kernel) (by decide +kernel)
set_option maxRecDepth 20000 in
theorem gX7_write_X7_isProcess : GoodIn wsX7_write (va_wsS RX7 221 yX7_isProcess wsX7_isProcess) := goodIn_app (goodIn_of _ (by decide +kernel)) ggX7_write_X7_isProcess
set_option maxRecDepth 20000 in
theorem ggX7_write_X7_isPort : GoodIn wsX7_write wsX7_isPort := goodIn_r _ [13] (by decide +kernel) (by decide +kernel)
set_option maxRecDepth 20000 in
theorem gX7_write_X7_isPort : GoodIn wsX7_write (va_wsS RX7 209 yX7_isPort wsX7_isPort) := goodIn_app (goodIn_of _ (by decide +kernel)) ggX7_write_X7_isPort
set_option maxRecDepth 20000 in
theorem ggX7_write_X7_isBehind : GoodIn wsX7_write wsX7_isBehind := goodIn_r _ [17, 18, 4, 44, 45, 46, 47, 48, 49, 50, 51, 52, 53, 54, 55, 56, 57, 58, 59, 60, 61, 62, 63, 64, 65, 66, 67, 68, 69, 70, 71, 72, 73, 74, 75, 76, 77] (by decide +kernel) (by decide +kernel)
set_option maxRecDepth 20000 in
theorem gX7_write_X7_isBehind : GoodIn wsX7_write (wsV RX7 224 RX7 yX7_isBehind wsX7_isBehind) := goodIn_app (goodIn_of _ (by decide +kernel)) ggX7_write_X7_isBehind
set_option maxRecDepth 20000 in
theorem ggX7_write_X7_on : GoodIn wsX7_write wsX7_on := goodIn_r _ [22, 23, 44, 45, 46, 47, 48, 49, 50, 51, 52, 53, 54, 55, 56, 57, 58, 59, 60, 61, 62, 63, 64, 65, 66, 67, 68, 69, 70, 71, 72, 73, 74, 75, 76, 77] (by decide +kernel) (by decide +kernel)
set_option maxRecDepth 20000 in
theorem gX7_write_X7_on : GoodIn wsX7_write (wsV RX7 130 RX7 yX7_on wsX7_on) := goodIn_app (goodIn_of _ (by decide +kernel)) ggX7_write_X7_on
set_option maxRecDepth 20000 in
theorem ggX7_write_X7_raise : GoodIn wsX7_write wsX7_raise := goodIn_r _ [27, 4, 28, 44, 45, 46, 47, 48, 49, 50, 51, 52, 53, 54, 55, 56, 57, 58, 59, 60, 61, 62, 63, 64, 65, 66, 67, 68, 69, 70, 71, 72, 73, 74, 75, 76, 77] (by decide +kernel) (by decide +kernel)
set_option maxRecDepth 20000 in
theorem gX7_write_X7_raise : GoodIn wsX7_write (wsV RX7 171 RX7 yX7_raise wsX7_raise) := goodIn_app (goodIn_of _ (by decide +kernel)) ggX7_write_X7_raise
set_option maxRecDepth 20000 in
theorem ggX7_write_X7_give : GoodIn wsX7_write wsX7_give := goodIn_r _ [32, 33, 6, 5, 34, 35, 36, 9, 37, 44, 45, 46, 47, 48, 49, 50, 51, 52, 53, 54, 55, 56, 57, 58, 59, 60, 61, 62, 63, 64, 65, 66, 67, 68, 69, 70, 71, 72, 73, 74, 75, 76, 77] (by decide +kernel) (by decide +kernel)
set_option maxRecDepth 20000 in
theorem gX7_write_X7_give : GoodIn wsX7_write (wsV RX7 134 RX7 yX7_give wsX7_give) := goodIn_app (goodIn_of _ (by decide +kernel)) ggX7_write_X7_give
set_option maxRecDepth 20000 in
theorem ggX7_write_X7_push : GoodIn wsX7_write wsX7_push := goodIn_r _ [41, 6, 42, 43, 33, 44, 45, 46, 47, 48, 49, 50, 51, 52, 53, 54, 55, 56, 57, 58, 59, 60, 61, 62, 63, 64, 65, 66, 67, 68, 69, 70, 71, 72, 73, 74, 75, 76, 77] (by decide +kernel) (by decide +kernel)
set_option maxRecDepth 20000 in
theorem gX7_write_X7_push : GoodIn wsX7_write (wsV RX7 212 RX7 yX7_push wsX7_push) := goodIn_app (goodIn_of _ (by decide +kernel)) ggX7_write_X7_push
theorem dX7_write_0 : decode cX7_write 0 = .ok (.aload_n 0, 1) := by decide +kernel
theorem dX7_write_1 : decode cX7_write 1 = .ok (.iconst 0, 1) := by decide +kernel
theorem dX7_write_2 : decode cX7_write 2 = .ok (.putfield 7, 3) := by decide +kernel
theorem dX7_write_5 : decode cX7_write 5 = .ok (.iload_n 1, 1) := by decide +kernel
theorem dX7_write_6 : decode cX7_write 6 = .ok (.invokestatic 221, 3) := by decide +kernel
theorem dX7_write_9 : decode cX7_write 9 = .ok (.ifCond .eq 21, 3) := by decide +kernel
theorem dX7_write_12 : decode cX7_write 12 = .ok (.iload_n 2, 1) := by decide +kernel
theorem dX7_write_13 : decode cX7_write 13 = .ok (.invokestatic 209, 3) := by decide +kernel
theorem dX7_write_16 : decode cX7_write 16 = .ok (.ifCond .eq 14, 3) := by decide +kernel
theorem dX7_write_19 : decode cX7_write 19 = .ok (.iload_n 3, 1) := by decide +kernel
theorem dX7_write_20 : decode cX7_write 20 = .ok (.ifCond .lt 10, 3) := by decide +kernel
theorem dX7_write_23 : decode cX7_write 23 = .ok (.iload_n 3, 1) := by decide +kernel
theorem dX7_write_24 : decode cX7_write 24 = .ok (.sipush 255, 3) := by decide +kernel
theorem dX7_write_27 : decode cX7_write 27 = .ok (.if_icmp .le 5, 3) := by decide +kernel
theorem dX7_write_30 : decode cX7_write 30 = .ok (.iconst (-1), 1) := by decide +kernel
theorem dX7_write_31 : decode cX7_write 31 = .ok (.ireturn, 1) := by decide +kernel
theorem dX7_write_32 : decode cX7_write 32 = .ok (.aload_n 0, 1) := by decide +kernel
theorem dX7_write_33 : decode cX7_write 33 = .ok (.getfield 96, 3) := by decide +kernel
theorem dX7_write_36 : decode cX7_write 36 = .ok (.bipush 8, 2) := by decide +kernel
theorem dX7_write_38 : decode cX7_write 38 = .ok (.iload_n 2, 1) := by decide +kernel
theorem dX7_write_39 : decode cX7_write 39 = .ok (.imul, 1) := by decide +kernel
theorem dX7_write_40 : decode cX7_write 40 = .ok (.iload_n 1, 1) := by decide +kernel
theorem dX7_write_41 : decode cX7_write 41 = .ok (.iadd, 1) := by decide +kernel
theorem dX7_write_42 : decode cX7_write 42 = .ok (.baload, 1) := by decide +kernel
theorem dX7_write_43 : decode cX7_write 43 = .ok (.ifCond .eq 12, 3) := by decide +kernel
theorem dX7_write_46 : decode cX7_write 46 = .ok (.aload_n 0, 1) := by decide +kernel
theorem dX7_write_47 : decode cX7_write 47 = .ok (.getfield 75, 3) := by decide +kernel
theorem dX7_write_50 : decode cX7_write 50 = .ok (.iload_n 2, 1) := by decide +kernel
theorem dX7_write_51 : decode cX7_write 51 = .ok (.baload, 1) := by decide +kernel
theorem dX7_write_52 : decode cX7_write 52 = .ok (.ifCond .eq 6, 3) := by decide +kernel
theorem dX7_write_55 : decode cX7_write 55 = .ok (.bipush (-4), 2) := by decide +kernel
theorem dX7_write_57 : decode cX7_write 57 = .ok (.ireturn, 1) := by decide +kernel
theorem dX7_write_58 : decode cX7_write 58 = .ok (.aload_n 0, 1) := by decide +kernel
theorem dX7_write_59 : decode cX7_write 59 = .ok (.iload_n 1, 1) := by decide +kernel
theorem dX7_write_60 : decode cX7_write 60 = .ok (.iload_n 2, 1) := by decide +kernel
theorem dX7_write_61 : decode cX7_write 61 = .ok (.invokevirtual 224, 3) := by decide +kernel
theorem dX7_write_64 : decode cX7_write 64 = .ok (.ifCond .eq 28, 3) := by decide +kernel
theorem dX7_write_67 : decode cX7_write 67 = .ok (.aload_n 0, 1) := by decide +kernel
theorem dX7_write_68 : decode cX7_write 68 = .ok (.iload_n 2, 1) := by decide +kernel
theorem dX7_write_69 : decode cX7_write 69 = .ok (.bipush 10, 2) := by decide +kernel
theorem dX7_write_71 : decode cX7_write 71 = .ok (.invokevirtual 130, 3) := by decide +kernel
theorem dX7_write_74 : decode cX7_write 74 = .ok (.ifCond .eq 18, 3) := by decide +kernel
theorem dX7_write_77 : decode cX7_write 77 = .ok (.aload_n 0, 1) := by decide +kernel
theorem dX7_write_78 : decode cX7_write 78 = .ok (.aload_n 0, 1) := by decide +kernel
theorem dX7_write_79 : decode cX7_write 79 = .ok (.getfield 99, 3) := by decide +kernel
theorem dX7_write_82 : decode cX7_write 82 = .ok (.iload_n 1, 1) := by decide +kernel
theorem dX7_write_83 : decode cX7_write 83 = .ok (.iaload, 1) := by decide +kernel
theorem dX7_write_84 : decode cX7_write 84 = .ok (.bipush 32, 2) := by decide +kernel
theorem dX7_write_86 : decode cX7_write 86 = .ok (.invokevirtual 171, 3) := by decide +kernel
theorem dX7_write_89 : decode cX7_write 89 = .ok (.bipush (-5), 2) := by decide +kernel
theorem dX7_write_91 : decode cX7_write 91 = .ok (.ireturn, 1) := by decide +kernel
theorem dX7_write_92 : decode cX7_write 92 = .ok (.iconst 1, 1) := by decide +kernel
theorem dX7_write_93 : decode cX7_write 93 = .ok (.istore 4, 2) := by decide +kernel
theorem dX7_write_95 : decode cX7_write 95 = .ok (.iload_n 3, 1) := by decide +kernel
theorem dX7_write_96 : decode cX7_write 96 = .ok (.bipush 10, 2) := by decide +kernel
theorem dX7_write_98 : decode cX7_write 98 = .ok (.if_icmp .ne 16, 3) := by decide +kernel
theorem dX7_write_101 : decode cX7_write 101 = .ok (.aload_n 0, 1) := by decide +kernel
theorem dX7_write_102 : decode cX7_write 102 = .ok (.iload_n 2, 1) := by decide +kernel
theorem dX7_write_103 : decode cX7_write 103 = .ok (.bipush 7, 2) := by decide +kernel
theorem dX7_write_105 : decode cX7_write 105 = .ok (.invokevirtual 130, 3) := by decide +kernel
theorem dX7_write_108 : decode cX7_write 108 = .ok (.ifCond .eq 6, 3) := by decide +kernel
theorem dX7_write_111 : decode cX7_write 111 = .ok (.iconst 2, 1) := by decide +kernel
theorem dX7_write_112 : decode cX7_write 112 = .ok (.istore 4, 2) := by decide +kernel
theorem dX7_write_114 : decode cX7_write 114 = .ok (.iload_n 3, 1) := by decide +kernel
theorem dX7_write_115 : decode cX7_write 115 = .ok (.bipush 9, 2) := by decide +kernel
theorem dX7_write_117 : decode cX7_write 117 = .ok (.if_icmp .ne 27, 3) := by decide +kernel
theorem dX7_write_120 : decode cX7_write 120 = .ok (.aload_n 0, 1) := by decide +kernel
theorem dX7_write_121 : decode cX7_write 121 = .ok (.iload_n 2, 1) := by decide +kernel
theorem dX7_write_122 : decode cX7_write 122 = .ok (.bipush 8, 2) := by decide +kernel
theorem dX7_write_124 : decode cX7_write 124 = .ok (.invokevirtual 130, 3) := by decide +kernel
theorem dX7_write_127 : decode cX7_write 127 = .ok (.ifCond .eq 17, 3) := by decide +kernel
theorem dX7_write_130 : decode cX7_write 130 = .ok (.bipush 8, 2) := by decide +kernel
theorem dX7_write_132 : decode cX7_write 132 = .ok (.aload_n 0, 1) := by decide +kernel
theorem dX7_write_133 : decode cX7_write 133 = .ok (.getfield 60, 3) := by decide +kernel
theorem dX7_write_136 : decode cX7_write 136 = .ok (.iload_n 2, 1) := by decide +kernel
theorem dX7_write_137 : decode cX7_write 137 = .ok (.iaload, 1) := by decide +kernel
theorem dX7_write_138 : decode cX7_write 138 = .ok (.bipush 8, 2) := by decide +kernel
theorem dX7_write_140 : decode cX7_write 140 = .ok (.irem, 1) := by decide +kernel
theorem dX7_write_141 : decode cX7_write 141 = .ok (.isub, 1) := by decide +kernel
theorem dX7_write_142 : decode cX7_write 142 = .ok (.istore 4, 2) := by decide +kernel
theorem dX7_write_144 : decode cX7_write 144 = .ok (.aload_n 0, 1) := by decide +kernel
theorem dX7_write_145 : decode cX7_write 145 = .ok (.getfield 45, 3) := by decide +kernel
theorem dX7_write_148 : decode cX7_write 148 = .ok (.iload_n 2, 1) := by decide +kernel
theorem dX7_write_149 : decode cX7_write 149 = .ok (.iaload, 1) := by decide +kernel
theorem dX7_write_150 : decode cX7_write 150 = .ok (.iload 4, 2) := by decide +kernel
theorem dX7_write_152 : decode cX7_write 152 = .ok (.iadd, 1) := by decide +kernel
theorem dX7_write_153 : decode cX7_write 153 = .ok (.bipush 64, 2) := by decide +kernel
theorem dX7_write_155 : decode cX7_write 155 = .ok (.if_icmp .le 6, 3) := by decide +kernel
theorem dX7_write_158 : decode cX7_write 158 = .ok (.bipush (-2), 2) := by decide +kernel
theorem dX7_write_160 : decode cX7_write 160 = .ok (.ireturn, 1) := by decide +kernel
theorem dX7_write_161 : decode cX7_write 161 = .ok (.iload_n 3, 1) := by decide +kernel
theorem dX7_write_162 : decode cX7_write 162 = .ok (.bipush 9, 2) := by decide +kernel
theorem dX7_write_164 : decode cX7_write 164 = .ok (.if_icmp .ne 39, 3) := by decide +kernel
theorem dX7_write_167 : decode cX7_write 167 = .ok (.aload_n 0, 1) := by decide +kernel
theorem dX7_write_168 : decode cX7_write 168 = .ok (.iload_n 2, 1) := by decide +kernel
theorem dX7_write_169 : decode cX7_write 169 = .ok (.bipush 8, 2) := by decide +kernel
theorem dX7_write_171 : decode cX7_write 171 = .ok (.invokevirtual 130, 3) := by decide +kernel
theorem dX7_write_174 : decode cX7_write 174 = .ok (.ifCond .eq 29, 3) := by decide +kernel
theorem dX7_write_177 : decode cX7_write 177 = .ok (.iconst 0, 1) := by decide +kernel
theorem dX7_write_178 : decode cX7_write 178 = .ok (.istore 5, 2) := by decide +kernel
theorem dX7_write_180 : decode cX7_write 180 = .ok (.iload 5, 2) := by decide +kernel
theorem dX7_write_182 : decode cX7_write 182 = .ok (.iload 4, 2) := by decide +kernel
theorem dX7_write_184 : decode cX7_write 184 = .ok (.if_icmp .ge 16, 3) := by decide +kernel
theorem dX7_write_187 : decode cX7_write 187 = .ok (.aload_n 0, 1) := by decide +kernel
theorem dX7_write_188 : decode cX7_write 188 = .ok (.iload_n 2, 1) := by decide +kernel
theorem dX7_write_189 : decode cX7_write 189 = .ok (.bipush 32, 2) := by decide +kernel
theorem dX7_write_191 : decode cX7_write 191 = .ok (.invokevirtual 134, 3) := by decide +kernel
theorem dX7_write_194 : decode cX7_write 194 = .ok (.iinc 5 1, 3) := by decide +kernel
theorem dX7_write_197 : decode cX7_write 197 = .ok (.goto (-17), 3) := by decide +kernel
theorem dX7_write_200 : decode cX7_write 200 = .ok (.goto 22, 3) := by decide +kernel
theorem dX7_write_203 : decode cX7_write 203 = .ok (.iload 4, 2) := by decide +kernel
theorem dX7_write_205 : decode cX7_write 205 = .ok (.iconst 2, 1) := by decide +kernel
theorem dX7_write_206 : decode cX7_write 206 = .ok (.if_icmp .ne 10, 3) := by decide +kernel
theorem dX7_write_209 : decode cX7_write 209 = .ok (.aload_n 0, 1) := by decide +kernel
theorem dX7_write_210 : decode cX7_write 210 = .ok (.iload_n 2, 1) := by decide +kernel
theorem dX7_write_211 : decode cX7_write 211 = .ok (.bipush 13, 2) := by decide +kernel
theorem dX7_write_213 : decode cX7_write 213 = .ok (.invokevirtual 134, 3) := by decide +kernel
theorem dX7_write_216 : decode cX7_write 216 = .ok (.aload_n 0, 1) := by decide +kernel
theorem dX7_write_217 : decode cX7_write 217 = .ok (.iload_n 2, 1) := by decide +kernel
theorem dX7_write_218 : decode cX7_write 218 = .ok (.iload_n 3, 1) := by decide +kernel
theorem dX7_write_219 : decode cX7_write 219 = .ok (.invokevirtual 134, 3) := by decide +kernel
theorem dX7_write_222 : decode cX7_write 222 = .ok (.aload_n 0, 1) := by decide +kernel
theorem dX7_write_223 : decode cX7_write 223 = .ok (.iload_n 2, 1) := by decide +kernel
theorem dX7_write_224 : decode cX7_write 224 = .ok (.invokevirtual 212, 3) := by decide +kernel
theorem dX7_write_227 : decode cX7_write 227 = .ok (.iconst 1, 1) := by decide +kernel
theorem dX7_write_228 : decode cX7_write 228 = .ok (.ireturn, 1) := by decide +kernel
set_option maxRecDepth 20000 in
theorem ggX7_read_X7_isProcess : GoodIn wsX7_read wsX7_isProcess := goodIn_r _ [12] (by decide +kernel) (by decide +kernel)
set_option maxRecDepth 20000 in
theorem gX7_read_X7_isProcess : GoodIn wsX7_read (va_wsS RX7 221 yX7_isProcess wsX7_isProcess) := goodIn_app (goodIn_of _ (by decide +kernel)) ggX7_read_X7_isProcess
set_option maxRecDepth 20000 in
theorem ggX7_read_X7_isPort : GoodIn wsX7_read wsX7_isPort := goodIn_r _ [15] (by decide +kernel) (by decide +kernel)
set_option maxRecDepth 20000 in
theorem gX7_read_X7_isPort : GoodIn wsX7_read (va_wsS RX7 209 yX7_isPort wsX7_isPort) := goodIn_app (goodIn_of _ (by decide +kernel)) ggX7_read_X7_isPort
set_option maxRecDepth 20000 in
theorem ggX7_read_X7_pass : GoodIn wsX7_read wsX7_pass := goodIn_r _ [19, 20, 21, 22, 23, 24, 25, 11, 26, 27, 28, 29, 30, 31, 32, 33, 34, 35, 36, 37, 38, 39, 40, 41, 42, 43, 44, 45, 46, 47, 3, 48, 49, 50, 51, 52, 6, 4, 53, 54, 55, 56, 57, 58, 59, 60, 61, 62, 63, 64, 65, 66, 67, 68, 69, 70, 71, 72, 73, 74, 75, 76, 77, 78, 79, 80, 81, 82, 83, 84, 85, 86, 87, 88, 89, 90, 91, 92, 93, 94, 95, 96, 97, 98, 99, 100, 101, 102, 103, 104, 105, 5, 7, 106, 107, 108, 109, 110, 111, 112, 113, 114, 115, 116, 117, 118, 119, 120, 121, 122, 123, 124, 125, 126, 127, 128, 129, 130, 131, 132, 133, 134, 135, 136, 137, 138, 139, 140, 141, 142, 147, 148, 149, 150, 151, 152, 153, 154, 155, 156, 157, 158, 159, 160, 161, 162, 163, 164, 165, 166, 167, 168, 169, 170, 171, 172, 173, 174, 175, 176, 177, 178, 179, 180] (by decide +kernel) (by decide +kernel)
set_option maxRecDepth 20000 in
theorem gX7_read_X7_pass : GoodIn wsX7_read (wsV RX7 227 RX7 yX7_pass wsX7_pass) := goodIn_app (goodIn_of _ (by decide +kernel)) ggX7_read_X7_pass
set_option maxRecDepth 20000 in
theorem ggX7_read_X7_isBehind : GoodIn wsX7_read wsX7_isBehind := goodIn_r _ [146, 43, 3, 147, 148, 149, 150, 151, 152, 153, 154, 155, 156, 157, 158, 159, 160, 161, 162, 163, 164, 165, 166, 167, 168, 169, 170, 171, 172, 173, 174, 175, 176, 177, 178, 179, 180] (by decide +kernel) (by decide +kernel)
set_option maxRecDepth 20000 in
theorem gX7_read_X7_isBehind : GoodIn wsX7_read (wsV RX7 224 RX7 yX7_isBehind wsX7_isBehind) := goodIn_app (goodIn_of _ (by decide +kernel)) ggX7_read_X7_isBehind
set_option maxRecDepth 20000 in
theorem ggX7_read_X7_raise : GoodIn wsX7_read wsX7_raise := goodIn_r _ [47, 3, 48, 147, 148, 149, 150, 151, 152, 153, 154, 155, 156, 157, 158, 159, 160, 161, 162, 163, 164, 165, 166, 167, 168, 169, 170, 171, 172, 173, 174, 175, 176, 177, 178, 179, 180] (by decide +kernel) (by decide +kernel)
set_option maxRecDepth 20000 in
theorem gX7_read_X7_raise : GoodIn wsX7_read (wsV RX7 171 RX7 yX7_raise wsX7_raise) := goodIn_app (goodIn_of _ (by decide +kernel)) ggX7_read_X7_raise
set_option maxRecDepth 20000 in
theorem ggX7_read_X7_flowDown : GoodIn wsX7_read wsX7_flowDown := goodIn_r _ [56, 57, 6, 58, 147, 148, 149, 150, 151, 152, 153, 154, 155, 156, 157, 158, 159, 160, 161, 162, 163, 164, 165, 166, 167, 168, 169, 170, 171, 172, 173, 174, 175, 176, 177, 178, 179, 180] (by decide +kernel) (by decide +kernel)
set_option maxRecDepth 20000 in
theorem gX7_read_X7_flowDown : GoodIn wsX7_read (wsV RX7 156 RX7 yX7_flowDown wsX7_flowDown) := goodIn_app (goodIn_of _ (by decide +kernel)) ggX7_read_X7_flowDown
theorem dX7_read_0 : decode cX7_read 0 = .ok (.aload_n 0, 1) := by decide +kernel
theorem dX7_read_1 : decode cX7_read 1 = .ok (.iconst 0, 1) := by decide +kernel
theorem dX7_read_2 : decode cX7_read 2 = .ok (.putfield 7, 3) := by decide +kernel
theorem dX7_read_5 : decode cX7_read 5 = .ok (.iload_n 1, 1) := by decide +kernel
theorem dX7_read_6 : decode cX7_read 6 = .ok (.invokestatic 221, 3) := by decide +kernel
theorem dX7_read_9 : decode cX7_read 9 = .ok (.ifCond .eq 10, 3) := by decide +kernel
theorem dX7_read_12 : decode cX7_read 12 = .ok (.iload_n 2, 1) := by decide +kernel
theorem dX7_read_13 : decode cX7_read 13 = .ok (.invokestatic 209, 3) := by decide +kernel
theorem dX7_read_16 : decode cX7_read 16 = .ok (.ifCond .ne 5, 3) := by decide +kernel
theorem dX7_read_19 : decode cX7_read 19 = .ok (.iconst (-1), 1) := by decide +kernel
theorem dX7_read_20 : decode cX7_read 20 = .ok (.ireturn, 1) := by decide +kernel
theorem dX7_read_21 : decode cX7_read 21 = .ok (.aload_n 0, 1) := by decide +kernel
theorem dX7_read_22 : decode cX7_read 22 = .ok (.iload_n 2, 1) := by decide +kernel
theorem dX7_read_23 : decode cX7_read 23 = .ok (.invokevirtual 227, 3) := by decide +kernel
theorem dX7_read_26 : decode cX7_read 26 = .ok (.aload_n 0, 1) := by decide +kernel
theorem dX7_read_27 : decode cX7_read 27 = .ok (.getfield 96, 3) := by decide +kernel
theorem dX7_read_30 : decode cX7_read 30 = .ok (.bipush 8, 2) := by decide +kernel
theorem dX7_read_32 : decode cX7_read 32 = .ok (.iload_n 2, 1) := by decide +kernel
theorem dX7_read_33 : decode cX7_read 33 = .ok (.imul, 1) := by decide +kernel
theorem dX7_read_34 : decode cX7_read 34 = .ok (.iload_n 1, 1) := by decide +kernel
theorem dX7_read_35 : decode cX7_read 35 = .ok (.iadd, 1) := by decide +kernel
theorem dX7_read_36 : decode cX7_read 36 = .ok (.baload, 1) := by decide +kernel
theorem dX7_read_37 : decode cX7_read 37 = .ok (.ifCond .ne 6, 3) := by decide +kernel
theorem dX7_read_40 : decode cX7_read 40 = .ok (.bipush (-4), 2) := by decide +kernel
theorem dX7_read_42 : decode cX7_read 42 = .ok (.ireturn, 1) := by decide +kernel
theorem dX7_read_43 : decode cX7_read 43 = .ok (.aload_n 0, 1) := by decide +kernel
theorem dX7_read_44 : decode cX7_read 44 = .ok (.iload_n 1, 1) := by decide +kernel
theorem dX7_read_45 : decode cX7_read 45 = .ok (.iload_n 2, 1) := by decide +kernel
theorem dX7_read_46 : decode cX7_read 46 = .ok (.invokevirtual 224, 3) := by decide +kernel
theorem dX7_read_49 : decode cX7_read 49 = .ok (.ifCond .eq 18, 3) := by decide +kernel
theorem dX7_read_52 : decode cX7_read 52 = .ok (.aload_n 0, 1) := by decide +kernel
theorem dX7_read_53 : decode cX7_read 53 = .ok (.aload_n 0, 1) := by decide +kernel
theorem dX7_read_54 : decode cX7_read 54 = .ok (.getfield 99, 3) := by decide +kernel
theorem dX7_read_57 : decode cX7_read 57 = .ok (.iload_n 1, 1) := by decide +kernel
theorem dX7_read_58 : decode cX7_read 58 = .ok (.iaload, 1) := by decide +kernel
theorem dX7_read_59 : decode cX7_read 59 = .ok (.bipush 16, 2) := by decide +kernel
theorem dX7_read_61 : decode cX7_read 61 = .ok (.invokevirtual 171, 3) := by decide +kernel
theorem dX7_read_64 : decode cX7_read 64 = .ok (.bipush (-5), 2) := by decide +kernel
theorem dX7_read_66 : decode cX7_read 66 = .ok (.ireturn, 1) := by decide +kernel
theorem dX7_read_67 : decode cX7_read 67 = .ok (.aload_n 0, 1) := by decide +kernel
theorem dX7_read_68 : decode cX7_read 68 = .ok (.getfield 36, 3) := by decide +kernel
theorem dX7_read_71 : decode cX7_read 71 = .ok (.iload_n 2, 1) := by decide +kernel
theorem dX7_read_72 : decode cX7_read 72 = .ok (.iaload, 1) := by decide +kernel
theorem dX7_read_73 : decode cX7_read 73 = .ok (.ifCond .le 122, 3) := by decide +kernel
theorem dX7_read_76 : decode cX7_read 76 = .ok (.aload_n 0, 1) := by decide +kernel
theorem dX7_read_77 : decode cX7_read 77 = .ok (.getfield 26, 3) := by decide +kernel
theorem dX7_read_80 : decode cX7_read 80 = .ok (.bipush 65, 2) := by decide +kernel
theorem dX7_read_82 : decode cX7_read 82 = .ok (.iload_n 2, 1) := by decide +kernel
theorem dX7_read_83 : decode cX7_read 83 = .ok (.imul, 1) := by decide +kernel
theorem dX7_read_84 : decode cX7_read 84 = .ok (.iaload, 1) := by decide +kernel
theorem dX7_read_85 : decode cX7_read 85 = .ok (.istore_n 3, 1) := by decide +kernel
theorem dX7_read_86 : decode cX7_read 86 = .ok (.aload_n 0, 1) := by decide +kernel
theorem dX7_read_87 : decode cX7_read 87 = .ok (.getfield 33, 3) := by decide +kernel
theorem dX7_read_90 : decode cX7_read 90 = .ok (.iload_n 2, 1) := by decide +kernel
theorem dX7_read_91 : decode cX7_read 91 = .ok (.dup2, 1) := by decide +kernel
theorem dX7_read_92 : decode cX7_read 92 = .ok (.iaload, 1) := by decide +kernel
theorem dX7_read_93 : decode cX7_read 93 = .ok (.iconst 1, 1) := by decide +kernel
theorem dX7_read_94 : decode cX7_read 94 = .ok (.isub, 1) := by decide +kernel
theorem dX7_read_95 : decode cX7_read 95 = .ok (.iastore, 1) := by decide +kernel
theorem dX7_read_96 : decode cX7_read 96 = .ok (.aload_n 0, 1) := by decide +kernel
theorem dX7_read_97 : decode cX7_read 97 = .ok (.getfield 36, 3) := by decide +kernel
theorem dX7_read_100 : decode cX7_read 100 = .ok (.iload_n 2, 1) := by decide +kernel
theorem dX7_read_101 : decode cX7_read 101 = .ok (.dup2, 1) := by decide +kernel
theorem dX7_read_102 : decode cX7_read 102 = .ok (.iaload, 1) := by decide +kernel
theorem dX7_read_103 : decode cX7_read 103 = .ok (.iconst 1, 1) := by decide +kernel
theorem dX7_read_104 : decode cX7_read 104 = .ok (.isub, 1) := by decide +kernel
theorem dX7_read_105 : decode cX7_read 105 = .ok (.iastore, 1) := by decide +kernel
theorem dX7_read_106 : decode cX7_read 106 = .ok (.iconst 0, 1) := by decide +kernel
theorem dX7_read_107 : decode cX7_read 107 = .ok (.istore 4, 2) := by decide +kernel
theorem dX7_read_109 : decode cX7_read 109 = .ok (.iload 4, 2) := by decide +kernel
theorem dX7_read_111 : decode cX7_read 111 = .ok (.aload_n 0, 1) := by decide +kernel
theorem dX7_read_112 : decode cX7_read 112 = .ok (.getfield 33, 3) := by decide +kernel
theorem dX7_read_115 : decode cX7_read 115 = .ok (.iload_n 2, 1) := by decide +kernel
theorem dX7_read_116 : decode cX7_read 116 = .ok (.iaload, 1) := by decide +kernel
theorem dX7_read_117 : decode cX7_read 117 = .ok (.if_icmp .ge 61, 3) := by decide +kernel
theorem dX7_read_120 : decode cX7_read 120 = .ok (.aload_n 0, 1) := by decide +kernel
theorem dX7_read_121 : decode cX7_read 121 = .ok (.getfield 26, 3) := by decide +kernel
theorem dX7_read_124 : decode cX7_read 124 = .ok (.bipush 65, 2) := by decide +kernel
theorem dX7_read_126 : decode cX7_read 126 = .ok (.iload_n 2, 1) := by decide +kernel
theorem dX7_read_127 : decode cX7_read 127 = .ok (.imul, 1) := by decide +kernel
theorem dX7_read_128 : decode cX7_read 128 = .ok (.iload 4, 2) := by decide +kernel
theorem dX7_read_130 : decode cX7_read 130 = .ok (.iadd, 1) := by decide +kernel
theorem dX7_read_131 : decode cX7_read 131 = .ok (.aload_n 0, 1) := by decide +kernel
theorem dX7_read_132 : decode cX7_read 132 = .ok (.getfield 26, 3) := by decide +kernel
theorem dX7_read_135 : decode cX7_read 135 = .ok (.bipush 65, 2) := by decide +kernel
theorem dX7_read_137 : decode cX7_read 137 = .ok (.iload_n 2, 1) := by decide +kernel
theorem dX7_read_138 : decode cX7_read 138 = .ok (.imul, 1) := by decide +kernel
theorem dX7_read_139 : decode cX7_read 139 = .ok (.iload 4, 2) := by decide +kernel
theorem dX7_read_141 : decode cX7_read 141 = .ok (.iadd, 1) := by decide +kernel
theorem dX7_read_142 : decode cX7_read 142 = .ok (.iconst 1, 1) := by decide +kernel
theorem dX7_read_143 : decode cX7_read 143 = .ok (.iadd, 1) := by decide +kernel
theorem dX7_read_144 : decode cX7_read 144 = .ok (.iaload, 1) := by decide +kernel
theorem dX7_read_145 : decode cX7_read 145 = .ok (.iastore, 1) := by decide +kernel
theorem dX7_read_146 : decode cX7_read 146 = .ok (.aload_n 0, 1) := by decide +kernel
theorem dX7_read_147 : decode cX7_read 147 = .ok (.getfield 29, 3) := by decide +kernel
theorem dX7_read_150 : decode cX7_read 150 = .ok (.bipush 65, 2) := by decide +kernel
theorem dX7_read_152 : decode cX7_read 152 = .ok (.iload_n 2, 1) := by decide +kernel
theorem dX7_read_153 : decode cX7_read 153 = .ok (.imul, 1) := by decide +kernel
theorem dX7_read_154 : decode cX7_read 154 = .ok (.iload 4, 2) := by decide +kernel
theorem dX7_read_156 : decode cX7_read 156 = .ok (.iadd, 1) := by decide +kernel
theorem dX7_read_157 : decode cX7_read 157 = .ok (.aload_n 0, 1) := by decide +kernel
theorem dX7_read_158 : decode cX7_read 158 = .ok (.getfield 29, 3) := by decide +kernel
theorem dX7_read_161 : decode cX7_read 161 = .ok (.bipush 65, 2) := by decide +kernel
theorem dX7_read_163 : decode cX7_read 163 = .ok (.iload_n 2, 1) := by decide +kernel
theorem dX7_read_164 : decode cX7_read 164 = .ok (.imul, 1) := by decide +kernel
theorem dX7_read_165 : decode cX7_read 165 = .ok (.iload 4, 2) := by decide +kernel
theorem dX7_read_167 : decode cX7_read 167 = .ok (.iadd, 1) := by decide +kernel
theorem dX7_read_168 : decode cX7_read 168 = .ok (.iconst 1, 1) := by decide +kernel
theorem dX7_read_169 : decode cX7_read 169 = .ok (.iadd, 1) := by decide +kernel
theorem dX7_read_170 : decode cX7_read 170 = .ok (.baload, 1) := by decide +kernel
theorem dX7_read_171 : decode cX7_read 171 = .ok (.bastore, 1) := by decide +kernel
theorem dX7_read_172 : decode cX7_read 172 = .ok (.iinc 4 1, 3) := by decide +kernel
theorem dX7_read_175 : decode cX7_read 175 = .ok (.goto (-66), 3) := by decide +kernel
theorem dX7_read_178 : decode cX7_read 178 = .ok (.aload_n 0, 1) := by decide +kernel
theorem dX7_read_179 : decode cX7_read 179 = .ok (.iload_n 2, 1) := by decide +kernel
theorem dX7_read_180 : decode cX7_read 180 = .ok (.invokevirtual 156, 3) := by decide +kernel
theorem dX7_read_183 : decode cX7_read 183 = .ok (.iload_n 3, 1) := by decide +kernel
theorem dX7_read_184 : decode cX7_read 184 = .ok (.sipush 256, 3) := by decide +kernel
theorem dX7_read_187 : decode cX7_read 187 = .ok (.if_icmp .ne 6, 3) := by decide +kernel
theorem dX7_read_190 : decode cX7_read 190 = .ok (.bipush (-3), 2) := by decide +kernel
theorem dX7_read_192 : decode cX7_read 192 = .ok (.ireturn, 1) := by decide +kernel
theorem dX7_read_193 : decode cX7_read 193 = .ok (.iload_n 3, 1) := by decide +kernel
theorem dX7_read_194 : decode cX7_read 194 = .ok (.ireturn, 1) := by decide +kernel
theorem dX7_read_195 : decode cX7_read 195 = .ok (.aload_n 0, 1) := by decide +kernel
theorem dX7_read_196 : decode cX7_read 196 = .ok (.getfield 75, 3) := by decide +kernel
theorem dX7_read_199 : decode cX7_read 199 = .ok (.iload_n 2, 1) := by decide +kernel
theorem dX7_read_200 : decode cX7_read 200 = .ok (.baload, 1) := by decide +kernel
theorem dX7_read_201 : decode cX7_read 201 = .ok (.ifCond .eq 6, 3) := by decide +kernel
theorem dX7_read_204 : decode cX7_read 204 = .ok (.bipush (-3), 2) := by decide +kernel
theorem dX7_read_206 : decode cX7_read 206 = .ok (.ireturn, 1) := by decide +kernel
theorem dX7_read_207 : decode cX7_read 207 = .ok (.bipush (-2), 2) := by decide +kernel
theorem dX7_read_209 : decode cX7_read 209 = .ok (.ireturn, 1) := by decide +kernel
set_option maxRecDepth 20000 in
theorem ggX7_mode_X7_isPort : GoodIn wsX7_mode wsX7_isPort := goodIn_r _ [12] (by decide +kernel) (by decide +kernel)
set_option maxRecDepth 20000 in
theorem gX7_mode_X7_isPort : GoodIn wsX7_mode (va_wsS RX7 209 yX7_isPort wsX7_isPort) := goodIn_app (goodIn_of _ (by decide +kernel)) ggX7_mode_X7_isPort
set_option maxRecDepth 20000 in
theorem ggX7_mode_X7_most : GoodIn wsX7_mode wsX7_most := goodIn_r _ [15] (by decide +kernel) (by decide +kernel)
set_option maxRecDepth 20000 in
theorem gX7_mode_X7_most : GoodIn wsX7_mode (va_wsS RX7 230 yX7_most wsX7_most) := goodIn_app (goodIn_of _ (by decide +kernel)) ggX7_mode_X7_most
set_option maxRecDepth 20000 in
theorem ggX7_mode_X7_sets : GoodIn wsX7_mode wsX7_sets := goodIn_r _ [19, 20, 21, 22, 23, 24, 25, 26, 27, 11, 28, 29, 30, 39, 40, 41, 42, 43, 44, 45, 46, 47, 48, 49, 50, 51, 52, 53, 54, 55, 56, 57, 58, 59, 60, 61, 62, 63, 64, 65, 66, 67, 68, 69, 70, 71, 72] (by decide +kernel) (by decide +kernel)
set_option maxRecDepth 20000 in
theorem gX7_mode_X7_sets : GoodIn wsX7_mode (wsV RX7 203 RX7 yX7_sets wsX7_sets) := goodIn_app (goodIn_of _ (by decide +kernel)) ggX7_mode_X7_sets
set_option maxRecDepth 20000 in
theorem ggX7_mode_X7_settle : GoodIn wsX7_mode wsX7_settle := goodIn_r _ [34, 2, 6, 3, 4, 5, 35, 36, 37, 11, 38, 21, 24, 25, 26, 27, 28, 29, 30, 16, 17, 18, 19, 20, 22, 23, 39, 40, 41, 42, 43, 44, 45, 46, 47, 48, 49, 50, 51, 52, 53, 54, 55, 56, 57, 58, 59, 60, 61, 62, 63, 64, 65, 66, 67, 68, 69, 70, 71, 72] (by decide +kernel) (by decide +kernel)
set_option maxRecDepth 20000 in
theorem gX7_mode_X7_settle : GoodIn wsX7_mode (wsV RX7 206 RX7 yX7_settle wsX7_settle) := goodIn_app (goodIn_of _ (by decide +kernel)) ggX7_mode_X7_settle
theorem dX7_mode_0 : decode cX7_mode 0 = .ok (.aload_n 0, 1) := by decide +kernel
theorem dX7_mode_1 : decode cX7_mode 1 = .ok (.iconst 0, 1) := by decide +kernel
theorem dX7_mode_2 : decode cX7_mode 2 = .ok (.putfield 7, 3) := by decide +kernel
theorem dX7_mode_5 : decode cX7_mode 5 = .ok (.iload_n 1, 1) := by decide +kernel
theorem dX7_mode_6 : decode cX7_mode 6 = .ok (.invokestatic 209, 3) := by decide +kernel
theorem dX7_mode_9 : decode cX7_mode 9 = .ok (.ifCond .eq 36, 3) := by decide +kernel
theorem dX7_mode_12 : decode cX7_mode 12 = .ok (.iload_n 2, 1) := by decide +kernel
theorem dX7_mode_13 : decode cX7_mode 13 = .ok (.ifCond .lt 32, 3) := by decide +kernel
theorem dX7_mode_16 : decode cX7_mode 16 = .ok (.iload_n 2, 1) := by decide +kernel
theorem dX7_mode_17 : decode cX7_mode 17 = .ok (.bipush 24, 2) := by decide +kernel
theorem dX7_mode_19 : decode cX7_mode 19 = .ok (.if_icmp .gt 26, 3) := by decide +kernel
theorem dX7_mode_22 : decode cX7_mode 22 = .ok (.iload_n 3, 1) := by decide +kernel
theorem dX7_mode_23 : decode cX7_mode 23 = .ok (.ifCond .lt 22, 3) := by decide +kernel
theorem dX7_mode_26 : decode cX7_mode 26 = .ok (.iload_n 3, 1) := by decide +kernel
theorem dX7_mode_27 : decode cX7_mode 27 = .ok (.iload_n 2, 1) := by decide +kernel
theorem dX7_mode_28 : decode cX7_mode 28 = .ok (.invokestatic 230, 3) := by decide +kernel
theorem dX7_mode_31 : decode cX7_mode 31 = .ok (.if_icmp .gt 14, 3) := by decide +kernel
theorem dX7_mode_34 : decode cX7_mode 34 = .ok (.iload 4, 2) := by decide +kernel
theorem dX7_mode_36 : decode cX7_mode 36 = .ok (.ifCond .lt 9, 3) := by decide +kernel
theorem dX7_mode_39 : decode cX7_mode 39 = .ok (.iload 4, 2) := by decide +kernel
theorem dX7_mode_41 : decode cX7_mode 41 = .ok (.iconst 2, 1) := by decide +kernel
theorem dX7_mode_42 : decode cX7_mode 42 = .ok (.if_icmp .le 5, 3) := by decide +kernel
theorem dX7_mode_45 : decode cX7_mode 45 = .ok (.iconst 0, 1) := by decide +kernel
theorem dX7_mode_46 : decode cX7_mode 46 = .ok (.ireturn, 1) := by decide +kernel
theorem dX7_mode_47 : decode cX7_mode 47 = .ok (.iload 4, 2) := by decide +kernel
theorem dX7_mode_49 : decode cX7_mode 49 = .ok (.ifCond .ne 12, 3) := by decide +kernel
theorem dX7_mode_52 : decode cX7_mode 52 = .ok (.aload_n 0, 1) := by decide +kernel
theorem dX7_mode_53 : decode cX7_mode 53 = .ok (.iload_n 1, 1) := by decide +kernel
theorem dX7_mode_54 : decode cX7_mode 54 = .ok (.iload_n 2, 1) := by decide +kernel
theorem dX7_mode_55 : decode cX7_mode 55 = .ok (.iload_n 3, 1) := by decide +kernel
theorem dX7_mode_56 : decode cX7_mode 56 = .ok (.invokevirtual 203, 3) := by decide +kernel
theorem dX7_mode_59 : decode cX7_mode 59 = .ok (.iconst 1, 1) := by decide +kernel
theorem dX7_mode_60 : decode cX7_mode 60 = .ok (.ireturn, 1) := by decide +kernel
theorem dX7_mode_61 : decode cX7_mode 61 = .ok (.aload_n 0, 1) := by decide +kernel
theorem dX7_mode_62 : decode cX7_mode 62 = .ok (.getfield 81, 3) := by decide +kernel
theorem dX7_mode_65 : decode cX7_mode 65 = .ok (.iload_n 1, 1) := by decide +kernel
theorem dX7_mode_66 : decode cX7_mode 66 = .ok (.iaload, 1) := by decide +kernel
theorem dX7_mode_67 : decode cX7_mode 67 = .ok (.iconst 3, 1) := by decide +kernel
theorem dX7_mode_68 : decode cX7_mode 68 = .ok (.if_icmp .ne 5, 3) := by decide +kernel
theorem dX7_mode_71 : decode cX7_mode 71 = .ok (.iconst 0, 1) := by decide +kernel
theorem dX7_mode_72 : decode cX7_mode 72 = .ok (.ireturn, 1) := by decide +kernel
theorem dX7_mode_73 : decode cX7_mode 73 = .ok (.iconst 3, 1) := by decide +kernel
theorem dX7_mode_74 : decode cX7_mode 74 = .ok (.iload_n 1, 1) := by decide +kernel
theorem dX7_mode_75 : decode cX7_mode 75 = .ok (.imul, 1) := by decide +kernel
theorem dX7_mode_76 : decode cX7_mode 76 = .ok (.aload_n 0, 1) := by decide +kernel
theorem dX7_mode_77 : decode cX7_mode 77 = .ok (.getfield 81, 3) := by decide +kernel
theorem dX7_mode_80 : decode cX7_mode 80 = .ok (.iload_n 1, 1) := by decide +kernel
theorem dX7_mode_81 : decode cX7_mode 81 = .ok (.iaload, 1) := by decide +kernel
theorem dX7_mode_82 : decode cX7_mode 82 = .ok (.iadd, 1) := by decide +kernel
theorem dX7_mode_83 : decode cX7_mode 83 = .ok (.istore 5, 2) := by decide +kernel
theorem dX7_mode_85 : decode cX7_mode 85 = .ok (.aload_n 0, 1) := by decide +kernel
theorem dX7_mode_86 : decode cX7_mode 86 = .ok (.getfield 84, 3) := by decide +kernel
theorem dX7_mode_89 : decode cX7_mode 89 = .ok (.iload 5, 2) := by decide +kernel
theorem dX7_mode_91 : decode cX7_mode 91 = .ok (.iload_n 2, 1) := by decide +kernel
theorem dX7_mode_92 : decode cX7_mode 92 = .ok (.iastore, 1) := by decide +kernel
theorem dX7_mode_93 : decode cX7_mode 93 = .ok (.aload_n 0, 1) := by decide +kernel
theorem dX7_mode_94 : decode cX7_mode 94 = .ok (.getfield 87, 3) := by decide +kernel
theorem dX7_mode_97 : decode cX7_mode 97 = .ok (.iload 5, 2) := by decide +kernel
theorem dX7_mode_99 : decode cX7_mode 99 = .ok (.iload_n 3, 1) := by decide +kernel
theorem dX7_mode_100 : decode cX7_mode 100 = .ok (.iastore, 1) := by decide +kernel
theorem dX7_mode_101 : decode cX7_mode 101 = .ok (.aload_n 0, 1) := by decide +kernel
theorem dX7_mode_102 : decode cX7_mode 102 = .ok (.getfield 90, 3) := by decide +kernel
theorem dX7_mode_105 : decode cX7_mode 105 = .ok (.iload 5, 2) := by decide +kernel
theorem dX7_mode_107 : decode cX7_mode 107 = .ok (.iload 4, 2) := by decide +kernel
theorem dX7_mode_109 : decode cX7_mode 109 = .ok (.iconst 2, 1) := by decide +kernel
theorem dX7_mode_110 : decode cX7_mode 110 = .ok (.if_icmp .ne 7, 3) := by decide +kernel
theorem dX7_mode_113 : decode cX7_mode 113 = .ok (.iconst 1, 1) := by decide +kernel
theorem dX7_mode_114 : decode cX7_mode 114 = .ok (.goto 4, 3) := by decide +kernel
theorem dX7_mode_117 : decode cX7_mode 117 = .ok (.iconst 0, 1) := by decide +kernel
theorem dX7_mode_118 : decode cX7_mode 118 = .ok (.bastore, 1) := by decide +kernel
theorem dX7_mode_119 : decode cX7_mode 119 = .ok (.aload_n 0, 1) := by decide +kernel
theorem dX7_mode_120 : decode cX7_mode 120 = .ok (.getfield 93, 3) := by decide +kernel
theorem dX7_mode_123 : decode cX7_mode 123 = .ok (.iload 5, 2) := by decide +kernel
theorem dX7_mode_125 : decode cX7_mode 125 = .ok (.aload_n 0, 1) := by decide +kernel
theorem dX7_mode_126 : decode cX7_mode 126 = .ok (.getfield 45, 3) := by decide +kernel
theorem dX7_mode_129 : decode cX7_mode 129 = .ok (.iload_n 1, 1) := by decide +kernel
theorem dX7_mode_130 : decode cX7_mode 130 = .ok (.iaload, 1) := by decide +kernel
theorem dX7_mode_131 : decode cX7_mode 131 = .ok (.aload_n 0, 1) := by decide +kernel
theorem dX7_mode_132 : decode cX7_mode 132 = .ok (.getfield 51, 3) := by decide +kernel
theorem dX7_mode_135 : decode cX7_mode 135 = .ok (.iload_n 1, 1) := by decide +kernel
theorem dX7_mode_136 : decode cX7_mode 136 = .ok (.iaload, 1) := by decide +kernel
theorem dX7_mode_137 : decode cX7_mode 137 = .ok (.iadd, 1) := by decide +kernel
theorem dX7_mode_138 : decode cX7_mode 138 = .ok (.iastore, 1) := by decide +kernel
theorem dX7_mode_139 : decode cX7_mode 139 = .ok (.aload_n 0, 1) := by decide +kernel
theorem dX7_mode_140 : decode cX7_mode 140 = .ok (.getfield 81, 3) := by decide +kernel
theorem dX7_mode_143 : decode cX7_mode 143 = .ok (.iload_n 1, 1) := by decide +kernel
theorem dX7_mode_144 : decode cX7_mode 144 = .ok (.dup2, 1) := by decide +kernel
theorem dX7_mode_145 : decode cX7_mode 145 = .ok (.iaload, 1) := by decide +kernel
theorem dX7_mode_146 : decode cX7_mode 146 = .ok (.iconst 1, 1) := by decide +kernel
theorem dX7_mode_147 : decode cX7_mode 147 = .ok (.iadd, 1) := by decide +kernel
theorem dX7_mode_148 : decode cX7_mode 148 = .ok (.iastore, 1) := by decide +kernel
theorem dX7_mode_149 : decode cX7_mode 149 = .ok (.aload_n 0, 1) := by decide +kernel
theorem dX7_mode_150 : decode cX7_mode 150 = .ok (.iload_n 1, 1) := by decide +kernel
theorem dX7_mode_151 : decode cX7_mode 151 = .ok (.invokevirtual 206, 3) := by decide +kernel
theorem dX7_mode_154 : decode cX7_mode 154 = .ok (.iconst 1, 1) := by decide +kernel
theorem dX7_mode_155 : decode cX7_mode 155 = .ok (.ireturn, 1) := by decide +kernel
set_option maxRecDepth 20000 in
theorem ggX7_modeOf_X7_isPort : GoodIn wsX7_modeOf wsX7_isPort := goodIn_r _ [5] (by decide +kernel) (by decide +kernel)
set_option maxRecDepth 20000 in
theorem gX7_modeOf_X7_isPort : GoodIn wsX7_modeOf (va_wsS RX7 209 yX7_isPort wsX7_isPort) := goodIn_app (goodIn_of _ (by decide +kernel)) ggX7_modeOf_X7_isPort
set_option maxRecDepth 20000 in
theorem ggX7_modeOf_X7_mode1 : GoodIn wsX7_modeOf wsX7_mode1 := goodIn_r _ [9, 10, 11, 12, 13, 14, 15, 16, 17, 18, 19, 20, 21, 22, 23, 24, 25, 26, 27, 28, 29, 30, 31, 32, 33, 34, 35, 36, 37, 38, 39, 40, 41, 42, 43, 44] (by decide +kernel) (by decide +kernel)
set_option maxRecDepth 20000 in
theorem gX7_modeOf_X7_mode1 : GoodIn wsX7_modeOf (wsV RX7 147 RX7 yX7_mode1 wsX7_mode1) := goodIn_app (goodIn_of _ (by decide +kernel)) ggX7_modeOf_X7_mode1
theorem dX7_modeOf_0 : decode cX7_modeOf 0 = .ok (.aload_n 0, 1) := by decide +kernel
theorem dX7_modeOf_1 : decode cX7_modeOf 1 = .ok (.iconst 0, 1) := by decide +kernel
theorem dX7_modeOf_2 : decode cX7_modeOf 2 = .ok (.putfield 7, 3) := by decide +kernel
theorem dX7_modeOf_5 : decode cX7_modeOf 5 = .ok (.iload_n 1, 1) := by decide +kernel
theorem dX7_modeOf_6 : decode cX7_modeOf 6 = .ok (.invokestatic 209, 3) := by decide +kernel
theorem dX7_modeOf_9 : decode cX7_modeOf 9 = .ok (.ifCond .eq 13, 3) := by decide +kernel
theorem dX7_modeOf_12 : decode cX7_modeOf 12 = .ok (.iload_n 2, 1) := by decide +kernel
theorem dX7_modeOf_13 : decode cX7_modeOf 13 = .ok (.ifCond .lt 9, 3) := by decide +kernel
theorem dX7_modeOf_16 : decode cX7_modeOf 16 = .ok (.iload_n 2, 1) := by decide +kernel
theorem dX7_modeOf_17 : decode cX7_modeOf 17 = .ok (.bipush 24, 2) := by decide +kernel
theorem dX7_modeOf_19 : decode cX7_modeOf 19 = .ok (.if_icmp .le 5, 3) := by decide +kernel
theorem dX7_modeOf_22 : decode cX7_modeOf 22 = .ok (.iconst (-1), 1) := by decide +kernel
theorem dX7_modeOf_23 : decode cX7_modeOf 23 = .ok (.ireturn, 1) := by decide +kernel
theorem dX7_modeOf_24 : decode cX7_modeOf 24 = .ok (.aload_n 0, 1) := by decide +kernel
theorem dX7_modeOf_25 : decode cX7_modeOf 25 = .ok (.iload_n 1, 1) := by decide +kernel
theorem dX7_modeOf_26 : decode cX7_modeOf 26 = .ok (.iload_n 2, 1) := by decide +kernel
theorem dX7_modeOf_27 : decode cX7_modeOf 27 = .ok (.invokevirtual 147, 3) := by decide +kernel
theorem dX7_modeOf_30 : decode cX7_modeOf 30 = .ok (.ireturn, 1) := by decide +kernel
set_option maxRecDepth 20000 in
theorem ggX7_poll_X7_isProcess : GoodIn wsX7_poll wsX7_isProcess := goodIn_r _ [9] (by decide +kernel) (by decide +kernel)
set_option maxRecDepth 20000 in
theorem gX7_poll_X7_isProcess : GoodIn wsX7_poll (va_wsS RX7 221 yX7_isProcess wsX7_isProcess) := goodIn_app (goodIn_of _ (by decide +kernel)) ggX7_poll_X7_isProcess
set_option maxRecDepth 20000 in
theorem ggX7_poll_X7_isPort : GoodIn wsX7_poll wsX7_isPort := goodIn_r _ [12] (by decide +kernel) (by decide +kernel)
set_option maxRecDepth 20000 in
theorem gX7_poll_X7_isPort : GoodIn wsX7_poll (va_wsS RX7 209 yX7_isPort wsX7_isPort) := goodIn_app (goodIn_of _ (by decide +kernel)) ggX7_poll_X7_isPort
set_option maxRecDepth 20000 in
theorem ggX7_poll_X7_pass : GoodIn wsX7_poll wsX7_pass := goodIn_r _ [16, 17, 18, 19, 20, 21, 22, 8, 23, 24, 25, 26, 27, 28, 29, 30, 31, 32, 33, 34, 35, 36, 37, 38, 39, 40, 41, 42, 43, 44, 45, 46, 47, 48, 49, 50, 51, 3, 52, 53, 54, 55, 56, 57, 58, 59, 60, 61, 5, 62, 63, 64, 65, 66, 67, 68, 69, 70, 71, 72, 73, 74, 75, 76, 77, 78, 79, 80, 81, 82, 83, 84, 85, 86, 87, 88, 89, 90, 91, 92, 93, 94, 95, 96, 97, 98, 99, 100, 101, 102, 103, 104, 105, 106, 107, 108, 109, 110, 111, 112, 113, 114, 115, 116, 117, 118, 119, 120, 121, 122, 123, 124, 125, 126, 127, 128, 129, 130, 131, 132, 133, 134, 135, 136, 137, 138, 139, 140, 141, 142, 147, 148, 149, 150, 151, 152, 153, 154, 155, 156, 157, 158, 159, 160, 161, 162, 163, 164, 165, 166, 167, 168, 169, 170, 171, 172, 173, 174, 175, 176, 177, 178, 179, 180] (by decide +kernel) (by decide +kernel)
set_option maxRecDepth 20000 in
theorem gX7_poll_X7_pass : GoodIn wsX7_poll (wsV RX7 227 RX7 yX7_pass wsX7_pass) := goodIn_app (goodIn_of _ (by decide +kernel)) ggX7_poll_X7_pass
set_option maxRecDepth 20000 in
theorem ggX7_poll_X7_isBehind : GoodIn wsX7_poll wsX7_isBehind := goodIn_r _ [146, 40, 45, 147, 148, 149, 150, 151, 152, 153, 154, 155, 156, 157, 158, 159, 160, 161, 162, 163, 164, 165, 166, 167, 168, 169, 170, 171, 172, 173, 174, 175, 176, 177, 178, 179, 180] (by decide +kernel) (by decide +kernel)
set_option maxRecDepth 20000 in
theorem gX7_poll_X7_isBehind : GoodIn wsX7_poll (wsV RX7 224 RX7 yX7_isBehind wsX7_isBehind) := goodIn_app (goodIn_of _ (by decide +kernel)) ggX7_poll_X7_isBehind
theorem dX7_poll_0 : decode cX7_poll 0 = .ok (.aload_n 0, 1) := by decide +kernel
theorem dX7_poll_1 : decode cX7_poll 1 = .ok (.iconst 0, 1) := by decide +kernel
theorem dX7_poll_2 : decode cX7_poll 2 = .ok (.putfield 7, 3) := by decide +kernel
theorem dX7_poll_5 : decode cX7_poll 5 = .ok (.iload_n 1, 1) := by decide +kernel
theorem dX7_poll_6 : decode cX7_poll 6 = .ok (.invokestatic 221, 3) := by decide +kernel
theorem dX7_poll_9 : decode cX7_poll 9 = .ok (.ifCond .eq 10, 3) := by decide +kernel
theorem dX7_poll_12 : decode cX7_poll 12 = .ok (.iload_n 2, 1) := by decide +kernel
theorem dX7_poll_13 : decode cX7_poll 13 = .ok (.invokestatic 209, 3) := by decide +kernel
theorem dX7_poll_16 : decode cX7_poll 16 = .ok (.ifCond .ne 5, 3) := by decide +kernel
theorem dX7_poll_19 : decode cX7_poll 19 = .ok (.iconst (-1), 1) := by decide +kernel
theorem dX7_poll_20 : decode cX7_poll 20 = .ok (.ireturn, 1) := by decide +kernel
theorem dX7_poll_21 : decode cX7_poll 21 = .ok (.aload_n 0, 1) := by decide +kernel
theorem dX7_poll_22 : decode cX7_poll 22 = .ok (.iload_n 2, 1) := by decide +kernel
theorem dX7_poll_23 : decode cX7_poll 23 = .ok (.invokevirtual 227, 3) := by decide +kernel
theorem dX7_poll_26 : decode cX7_poll 26 = .ok (.iconst 0, 1) := by decide +kernel
theorem dX7_poll_27 : decode cX7_poll 27 = .ok (.istore_n 3, 1) := by decide +kernel
theorem dX7_poll_28 : decode cX7_poll 28 = .ok (.aload_n 0, 1) := by decide +kernel
theorem dX7_poll_29 : decode cX7_poll 29 = .ok (.getfield 96, 3) := by decide +kernel
theorem dX7_poll_32 : decode cX7_poll 32 = .ok (.bipush 8, 2) := by decide +kernel
theorem dX7_poll_34 : decode cX7_poll 34 = .ok (.iload_n 2, 1) := by decide +kernel
theorem dX7_poll_35 : decode cX7_poll 35 = .ok (.imul, 1) := by decide +kernel
theorem dX7_poll_36 : decode cX7_poll 36 = .ok (.iload_n 1, 1) := by decide +kernel
theorem dX7_poll_37 : decode cX7_poll 37 = .ok (.iadd, 1) := by decide +kernel
theorem dX7_poll_38 : decode cX7_poll 38 = .ok (.baload, 1) := by decide +kernel
theorem dX7_poll_39 : decode cX7_poll 39 = .ok (.ifCond .eq 30, 3) := by decide +kernel
theorem dX7_poll_42 : decode cX7_poll 42 = .ok (.aload_n 0, 1) := by decide +kernel
theorem dX7_poll_43 : decode cX7_poll 43 = .ok (.iload_n 1, 1) := by decide +kernel
theorem dX7_poll_44 : decode cX7_poll 44 = .ok (.iload_n 2, 1) := by decide +kernel
theorem dX7_poll_45 : decode cX7_poll 45 = .ok (.invokevirtual 224, 3) := by decide +kernel
theorem dX7_poll_48 : decode cX7_poll 48 = .ok (.ifCond .ne 21, 3) := by decide +kernel
theorem dX7_poll_51 : decode cX7_poll 51 = .ok (.aload_n 0, 1) := by decide +kernel
theorem dX7_poll_52 : decode cX7_poll 52 = .ok (.getfield 36, 3) := by decide +kernel
theorem dX7_poll_55 : decode cX7_poll 55 = .ok (.iload_n 2, 1) := by decide +kernel
theorem dX7_poll_56 : decode cX7_poll 56 = .ok (.iaload, 1) := by decide +kernel
theorem dX7_poll_57 : decode cX7_poll 57 = .ok (.ifCond .gt 12, 3) := by decide +kernel
theorem dX7_poll_60 : decode cX7_poll 60 = .ok (.aload_n 0, 1) := by decide +kernel
theorem dX7_poll_61 : decode cX7_poll 61 = .ok (.getfield 75, 3) := by decide +kernel
theorem dX7_poll_64 : decode cX7_poll 64 = .ok (.iload_n 2, 1) := by decide +kernel
theorem dX7_poll_65 : decode cX7_poll 65 = .ok (.baload, 1) := by decide +kernel
theorem dX7_poll_66 : decode cX7_poll 66 = .ok (.ifCond .eq 5, 3) := by decide +kernel
theorem dX7_poll_69 : decode cX7_poll 69 = .ok (.iconst 1, 1) := by decide +kernel
theorem dX7_poll_70 : decode cX7_poll 70 = .ok (.istore_n 3, 1) := by decide +kernel
theorem dX7_poll_71 : decode cX7_poll 71 = .ok (.aload_n 0, 1) := by decide +kernel
theorem dX7_poll_72 : decode cX7_poll 72 = .ok (.getfield 45, 3) := by decide +kernel
theorem dX7_poll_75 : decode cX7_poll 75 = .ok (.iload_n 2, 1) := by decide +kernel
theorem dX7_poll_76 : decode cX7_poll 76 = .ok (.iaload, 1) := by decide +kernel
theorem dX7_poll_77 : decode cX7_poll 77 = .ok (.bipush 56, 2) := by decide +kernel
theorem dX7_poll_79 : decode cX7_poll 79 = .ok (.if_icmp .gt 6, 3) := by decide +kernel
theorem dX7_poll_82 : decode cX7_poll 82 = .ok (.iinc 3 2, 3) := by decide +kernel
theorem dX7_poll_85 : decode cX7_poll 85 = .ok (.aload_n 0, 1) := by decide +kernel
theorem dX7_poll_86 : decode cX7_poll 86 = .ok (.getfield 75, 3) := by decide +kernel
theorem dX7_poll_89 : decode cX7_poll 89 = .ok (.iload_n 2, 1) := by decide +kernel
theorem dX7_poll_90 : decode cX7_poll 90 = .ok (.baload, 1) := by decide +kernel
theorem dX7_poll_91 : decode cX7_poll 91 = .ok (.ifCond .eq 6, 3) := by decide +kernel
theorem dX7_poll_94 : decode cX7_poll 94 = .ok (.iinc 3 4, 3) := by decide +kernel
theorem dX7_poll_97 : decode cX7_poll 97 = .ok (.iload_n 3, 1) := by decide +kernel
theorem dX7_poll_98 : decode cX7_poll 98 = .ok (.ireturn, 1) := by decide +kernel
set_option maxRecDepth 20000 in
theorem ggX7_signals_X7_isProcess : GoodIn wsX7_signals wsX7_isProcess := goodIn_r _ [6] (by decide +kernel) (by decide +kernel)
set_option maxRecDepth 20000 in
theorem gX7_signals_X7_isProcess : GoodIn wsX7_signals (va_wsS RX7 221 yX7_isProcess wsX7_isProcess) := goodIn_app (goodIn_of _ (by decide +kernel)) ggX7_signals_X7_isProcess
theorem dX7_signals_0 : decode cX7_signals 0 = .ok (.aload_n 0, 1) := by decide +kernel
theorem dX7_signals_1 : decode cX7_signals 1 = .ok (.iconst 0, 1) := by decide +kernel
theorem dX7_signals_2 : decode cX7_signals 2 = .ok (.putfield 7, 3) := by decide +kernel
theorem dX7_signals_5 : decode cX7_signals 5 = .ok (.iload_n 1, 1) := by decide +kernel
theorem dX7_signals_6 : decode cX7_signals 6 = .ok (.invokestatic 221, 3) := by decide +kernel
theorem dX7_signals_9 : decode cX7_signals 9 = .ok (.ifCond .ne 5, 3) := by decide +kernel
theorem dX7_signals_12 : decode cX7_signals 12 = .ok (.iconst (-1), 1) := by decide +kernel
theorem dX7_signals_13 : decode cX7_signals 13 = .ok (.ireturn, 1) := by decide +kernel
theorem dX7_signals_14 : decode cX7_signals 14 = .ok (.aload_n 0, 1) := by decide +kernel
theorem dX7_signals_15 : decode cX7_signals 15 = .ok (.getfield 102, 3) := by decide +kernel
theorem dX7_signals_18 : decode cX7_signals 18 = .ok (.iload_n 1, 1) := by decide +kernel
theorem dX7_signals_19 : decode cX7_signals 19 = .ok (.iaload, 1) := by decide +kernel
theorem dX7_signals_20 : decode cX7_signals 20 = .ok (.istore_n 2, 1) := by decide +kernel
theorem dX7_signals_21 : decode cX7_signals 21 = .ok (.aload_n 0, 1) := by decide +kernel
theorem dX7_signals_22 : decode cX7_signals 22 = .ok (.getfield 102, 3) := by decide +kernel
theorem dX7_signals_25 : decode cX7_signals 25 = .ok (.iload_n 1, 1) := by decide +kernel
theorem dX7_signals_26 : decode cX7_signals 26 = .ok (.iconst 0, 1) := by decide +kernel
theorem dX7_signals_27 : decode cX7_signals 27 = .ok (.iastore, 1) := by decide +kernel
theorem dX7_signals_28 : decode cX7_signals 28 = .ok (.iload_n 2, 1) := by decide +kernel
theorem dX7_signals_29 : decode cX7_signals 29 = .ok (.ireturn, 1) := by decide +kernel
set_option maxRecDepth 20000 in
theorem ggX7_count_X7_isPort : GoodIn wsX7_count wsX7_isPort := goodIn_r _ [6] (by decide +kernel) (by decide +kernel)
set_option maxRecDepth 20000 in
theorem gX7_count_X7_isPort : GoodIn wsX7_count (va_wsS RX7 209 yX7_isPort wsX7_isPort) := goodIn_app (goodIn_of _ (by decide +kernel)) ggX7_count_X7_isPort
theorem dX7_count_0 : decode cX7_count 0 = .ok (.aload_n 0, 1) := by decide +kernel
theorem dX7_count_1 : decode cX7_count 1 = .ok (.iconst 0, 1) := by decide +kernel
theorem dX7_count_2 : decode cX7_count 2 = .ok (.putfield 7, 3) := by decide +kernel
theorem dX7_count_5 : decode cX7_count 5 = .ok (.iload_n 1, 1) := by decide +kernel
theorem dX7_count_6 : decode cX7_count 6 = .ok (.invokestatic 209, 3) := by decide +kernel
theorem dX7_count_9 : decode cX7_count 9 = .ok (.ifCond .eq 12, 3) := by decide +kernel
theorem dX7_count_12 : decode cX7_count 12 = .ok (.iload_n 2, 1) := by decide +kernel
theorem dX7_count_13 : decode cX7_count 13 = .ok (.ifCond .lt 8, 3) := by decide +kernel
theorem dX7_count_16 : decode cX7_count 16 = .ok (.iload_n 2, 1) := by decide +kernel
theorem dX7_count_17 : decode cX7_count 17 = .ok (.iconst 4, 1) := by decide +kernel
theorem dX7_count_18 : decode cX7_count 18 = .ok (.if_icmp .le 5, 3) := by decide +kernel
theorem dX7_count_21 : decode cX7_count 21 = .ok (.iconst (-1), 1) := by decide +kernel
theorem dX7_count_22 : decode cX7_count 22 = .ok (.ireturn, 1) := by decide +kernel
theorem dX7_count_23 : decode cX7_count 23 = .ok (.aload_n 0, 1) := by decide +kernel
theorem dX7_count_24 : decode cX7_count 24 = .ok (.getfield 105, 3) := by decide +kernel
theorem dX7_count_27 : decode cX7_count 27 = .ok (.iconst 5, 1) := by decide +kernel
theorem dX7_count_28 : decode cX7_count 28 = .ok (.iload_n 1, 1) := by decide +kernel
theorem dX7_count_29 : decode cX7_count 29 = .ok (.imul, 1) := by decide +kernel
theorem dX7_count_30 : decode cX7_count 30 = .ok (.iload_n 2, 1) := by decide +kernel
theorem dX7_count_31 : decode cX7_count 31 = .ok (.iadd, 1) := by decide +kernel
theorem dX7_count_32 : decode cX7_count 32 = .ok (.iaload, 1) := by decide +kernel
theorem dX7_count_33 : decode cX7_count 33 = .ok (.ireturn, 1) := by decide +kernel
set_option maxRecDepth 20000 in
theorem ggX7_column_X7_isPort : GoodIn wsX7_column wsX7_isPort := goodIn_r _ [6] (by decide +kernel) (by decide +kernel)
set_option maxRecDepth 20000 in
theorem gX7_column_X7_isPort : GoodIn wsX7_column (va_wsS RX7 209 yX7_isPort wsX7_isPort) := goodIn_app (goodIn_of _ (by decide +kernel)) ggX7_column_X7_isPort
theorem dX7_column_0 : decode cX7_column 0 = .ok (.aload_n 0, 1) := by decide +kernel
theorem dX7_column_1 : decode cX7_column 1 = .ok (.iconst 0, 1) := by decide +kernel
theorem dX7_column_2 : decode cX7_column 2 = .ok (.putfield 7, 3) := by decide +kernel
theorem dX7_column_5 : decode cX7_column 5 = .ok (.iload_n 1, 1) := by decide +kernel
theorem dX7_column_6 : decode cX7_column 6 = .ok (.invokestatic 209, 3) := by decide +kernel
theorem dX7_column_9 : decode cX7_column 9 = .ok (.ifCond .ne 5, 3) := by decide +kernel
theorem dX7_column_12 : decode cX7_column 12 = .ok (.iconst (-1), 1) := by decide +kernel
theorem dX7_column_13 : decode cX7_column 13 = .ok (.ireturn, 1) := by decide +kernel
theorem dX7_column_14 : decode cX7_column 14 = .ok (.aload_n 0, 1) := by decide +kernel
theorem dX7_column_15 : decode cX7_column 15 = .ok (.getfield 60, 3) := by decide +kernel
theorem dX7_column_18 : decode cX7_column 18 = .ok (.iload_n 1, 1) := by decide +kernel
theorem dX7_column_19 : decode cX7_column 19 = .ok (.iaload, 1) := by decide +kernel
theorem dX7_column_20 : decode cX7_column 20 = .ok (.ireturn, 1) := by decide +kernel
set_option maxRecDepth 20000 in
theorem ggX7_flush_X7_isPort : GoodIn wsX7_flush wsX7_isPort := goodIn_r _ [5] (by decide +kernel) (by decide +kernel)
set_option maxRecDepth 20000 in
theorem gX7_flush_X7_isPort : GoodIn wsX7_flush (va_wsS RX7 209 yX7_isPort wsX7_isPort) := goodIn_app (goodIn_of _ (by decide +kernel)) ggX7_flush_X7_isPort
set_option maxRecDepth 20000 in
theorem ggX7_flush_X7_emptyStore : GoodIn wsX7_flush wsX7_emptyStore := goodIn_r _ [9, 10, 11, 12, 13, 14, 4, 15, 16, 17, 40, 41, 42, 43, 44, 45, 46, 47, 48, 49, 50, 51, 52, 53, 54, 55, 56, 57, 58, 59, 60, 61, 62, 63, 64, 65, 66, 67, 68, 69, 70, 71, 72, 73] (by decide +kernel) (by decide +kernel)
set_option maxRecDepth 20000 in
theorem gX7_flush_X7_emptyStore : GoodIn wsX7_flush (wsV RX7 174 RX7 yX7_emptyStore wsX7_emptyStore) := goodIn_app (goodIn_of _ (by decide +kernel)) ggX7_flush_X7_emptyStore
set_option maxRecDepth 20000 in
theorem ggX7_flush_X7_emptyAll : GoodIn wsX7_flush wsX7_emptyAll := goodIn_r _ [21, 22, 23, 24, 25, 26, 27, 28, 4, 29, 30, 31, 32, 6, 7, 8, 9, 10, 11, 12, 13, 14, 15, 16, 17, 33, 34, 35, 36, 37, 38, 39, 40, 41, 42, 43, 44, 45, 46, 47, 48, 49, 50, 51, 52, 53, 54, 55, 56, 57, 58, 59, 60, 61, 62, 63, 64, 65, 66, 67, 68, 69, 70, 71, 72, 73] (by decide +kernel) (by decide +kernel)
set_option maxRecDepth 20000 in
theorem gX7_flush_X7_emptyAll : GoodIn wsX7_flush (wsV RX7 218 RX7 yX7_emptyAll wsX7_emptyAll) := goodIn_app (goodIn_of _ (by decide +kernel)) ggX7_flush_X7_emptyAll
theorem dX7_flush_0 : decode cX7_flush 0 = .ok (.aload_n 0, 1) := by decide +kernel
theorem dX7_flush_1 : decode cX7_flush 1 = .ok (.iconst 0, 1) := by decide +kernel
theorem dX7_flush_2 : decode cX7_flush 2 = .ok (.putfield 7, 3) := by decide +kernel
theorem dX7_flush_5 : decode cX7_flush 5 = .ok (.iload_n 1, 1) := by decide +kernel
theorem dX7_flush_6 : decode cX7_flush 6 = .ok (.invokestatic 209, 3) := by decide +kernel
theorem dX7_flush_9 : decode cX7_flush 9 = .ok (.ifCond .eq 12, 3) := by decide +kernel
theorem dX7_flush_12 : decode cX7_flush 12 = .ok (.iload_n 2, 1) := by decide +kernel
theorem dX7_flush_13 : decode cX7_flush 13 = .ok (.ifCond .lt 8, 3) := by decide +kernel
theorem dX7_flush_16 : decode cX7_flush 16 = .ok (.iload_n 2, 1) := by decide +kernel
theorem dX7_flush_17 : decode cX7_flush 17 = .ok (.iconst 2, 1) := by decide +kernel
theorem dX7_flush_18 : decode cX7_flush 18 = .ok (.if_icmp .le 5, 3) := by decide +kernel
theorem dX7_flush_21 : decode cX7_flush 21 = .ok (.iconst 0, 1) := by decide +kernel
theorem dX7_flush_22 : decode cX7_flush 22 = .ok (.ireturn, 1) := by decide +kernel
theorem dX7_flush_23 : decode cX7_flush 23 = .ok (.iload_n 2, 1) := by decide +kernel
theorem dX7_flush_24 : decode cX7_flush 24 = .ok (.iconst 1, 1) := by decide +kernel
theorem dX7_flush_25 : decode cX7_flush 25 = .ok (.if_icmp .eq 8, 3) := by decide +kernel
theorem dX7_flush_28 : decode cX7_flush 28 = .ok (.aload_n 0, 1) := by decide +kernel
theorem dX7_flush_29 : decode cX7_flush 29 = .ok (.iload_n 1, 1) := by decide +kernel
theorem dX7_flush_30 : decode cX7_flush 30 = .ok (.invokevirtual 174, 3) := by decide +kernel
theorem dX7_flush_33 : decode cX7_flush 33 = .ok (.iload_n 2, 1) := by decide +kernel
theorem dX7_flush_34 : decode cX7_flush 34 = .ok (.ifCond .eq 8, 3) := by decide +kernel
theorem dX7_flush_37 : decode cX7_flush 37 = .ok (.aload_n 0, 1) := by decide +kernel
theorem dX7_flush_38 : decode cX7_flush 38 = .ok (.iload_n 1, 1) := by decide +kernel
theorem dX7_flush_39 : decode cX7_flush 39 = .ok (.invokevirtual 218, 3) := by decide +kernel
theorem dX7_flush_42 : decode cX7_flush 42 = .ok (.iconst 1, 1) := by decide +kernel
theorem dX7_flush_43 : decode cX7_flush 43 = .ok (.ireturn, 1) := by decide +kernel
set_option maxRecDepth 20000 in
theorem ggX7_ready_X7_isPort : GoodIn wsX7_ready wsX7_isPort := goodIn_r _ [6] (by decide +kernel) (by decide +kernel)
set_option maxRecDepth 20000 in
theorem gX7_ready_X7_isPort : GoodIn wsX7_ready (va_wsS RX7 209 yX7_isPort wsX7_isPort) := goodIn_app (goodIn_of _ (by decide +kernel)) ggX7_ready_X7_isPort
theorem dX7_ready_0 : decode cX7_ready 0 = .ok (.aload_n 0, 1) := by decide +kernel
theorem dX7_ready_1 : decode cX7_ready 1 = .ok (.iconst 0, 1) := by decide +kernel
theorem dX7_ready_2 : decode cX7_ready 2 = .ok (.putfield 7, 3) := by decide +kernel
theorem dX7_ready_5 : decode cX7_ready 5 = .ok (.iload_n 1, 1) := by decide +kernel
theorem dX7_ready_6 : decode cX7_ready 6 = .ok (.invokestatic 209, 3) := by decide +kernel
theorem dX7_ready_9 : decode cX7_ready 9 = .ok (.ifCond .ne 5, 3) := by decide +kernel
theorem dX7_ready_12 : decode cX7_ready 12 = .ok (.iconst (-1), 1) := by decide +kernel
theorem dX7_ready_13 : decode cX7_ready 13 = .ok (.ireturn, 1) := by decide +kernel
theorem dX7_ready_14 : decode cX7_ready 14 = .ok (.aload_n 0, 1) := by decide +kernel
theorem dX7_ready_15 : decode cX7_ready 15 = .ok (.getfield 36, 3) := by decide +kernel
theorem dX7_ready_18 : decode cX7_ready 18 = .ok (.iload_n 1, 1) := by decide +kernel
theorem dX7_ready_19 : decode cX7_ready 19 = .ok (.iaload, 1) := by decide +kernel
theorem dX7_ready_20 : decode cX7_ready 20 = .ok (.ireturn, 1) := by decide +kernel
set_option maxRecDepth 20000 in
theorem ggX7_tick_X7_pass : GoodIn wsX7_tick wsX7_pass := goodIn_r _ [9, 10, 11, 12, 13, 14, 15, 8, 16, 17, 18, 19, 20, 21, 22, 23, 24, 25, 26, 27, 28, 29, 30, 31, 32, 33, 34, 35, 36, 37, 38, 39, 40, 41, 42, 43, 4, 3, 44, 45, 46, 47, 48, 49, 50, 51, 52, 53, 54, 55, 56, 57, 58, 59, 60, 61, 62, 63, 64, 65, 66, 67, 68, 69, 70, 71, 72, 73, 74, 75, 76, 77, 78, 79, 80, 81, 82, 83, 84, 85, 86, 87, 88, 89, 90, 91, 92, 93, 94, 95, 96, 97, 98, 2, 99, 100, 101, 102, 103, 104, 105, 106, 107, 108, 109, 110, 111, 112, 113, 114, 115, 116, 117, 118, 119, 120, 121, 122, 123, 124, 125, 126, 127, 128, 129, 130, 131, 132, 133, 134, 151, 152, 153, 154, 155, 156, 157, 158, 159, 160, 161, 162, 163, 164, 165, 166, 167, 168, 169, 170, 171, 172, 173, 174, 175, 176, 177, 178, 179, 180, 181, 182, 183, 184] (by decide +kernel) (by decide +kernel)
set_option maxRecDepth 20000 in
theorem gX7_tick_X7_pass : GoodIn wsX7_tick (wsV RX7 227 RX7 yX7_pass wsX7_pass) := goodIn_app (goodIn_of _ (by decide +kernel)) ggX7_tick_X7_pass
set_option maxRecDepth 20000 in
theorem ggX7_tick_X7_isCanon : GoodIn wsX7_tick wsX7_isCanon := goodIn_r _ [102, 20, 21, 22, 8, 23, 24, 151, 152, 153, 154, 155, 156, 157, 158, 159, 160, 161, 162, 163, 164, 165, 166, 167, 168, 169, 170, 171, 172, 173, 174, 175, 176, 177, 178, 179, 180, 181, 182, 183, 184] (by decide +kernel) (by decide +kernel)
set_option maxRecDepth 20000 in
theorem gX7_tick_X7_isCanon : GoodIn wsX7_tick (wsV RX7 144 RX7 yX7_isCanon wsX7_isCanon) := goodIn_app (goodIn_of _ (by decide +kernel)) ggX7_tick_X7_isCanon
set_option maxRecDepth 20000 in
theorem ggX7_tick_X7_mode1 : GoodIn wsX7_tick wsX7_mode1 := goodIn_r _ [28, 24, 151, 152, 153, 154, 155, 156, 157, 158, 159, 160, 161, 162, 163, 164, 165, 166, 167, 168, 169, 170, 171, 172, 173, 174, 175, 176, 177, 178, 179, 180, 181, 182, 183, 184] (by decide +kernel) (by decide +kernel)
set_option maxRecDepth 20000 in
theorem gX7_tick_X7_mode1 : GoodIn wsX7_tick (wsV RX7 147 RX7 yX7_mode1 wsX7_mode1) := goodIn_app (goodIn_of _ (by decide +kernel)) ggX7_tick_X7_mode1
set_option maxRecDepth 20000 in
theorem ggX7_tick_X7_push : GoodIn wsX7_tick wsX7_push := goodIn_r _ [138, 54, 57, 139, 83, 151, 152, 153, 154, 155, 156, 157, 158, 159, 160, 161, 162, 163, 164, 165, 166, 167, 168, 169, 170, 171, 172, 173, 174, 175, 176, 177, 178, 179, 180, 181, 182, 183, 184] (by decide +kernel) (by decide +kernel)
set_option maxRecDepth 20000 in
theorem gX7_tick_X7_push : GoodIn wsX7_tick (wsV RX7 212 RX7 yX7_push wsX7_push) := goodIn_app (goodIn_of _ (by decide +kernel)) ggX7_tick_X7_push
set_option maxRecDepth 20000 in
theorem ggX7_tick_X7_settle : GoodIn wsX7_tick wsX7_settle := goodIn_r _ [143, 55, 56, 144, 145, 146, 40, 41, 42, 8, 43, 4, 3, 44, 45, 46, 47, 48, 49, 147, 148, 149, 150, 24, 97, 98, 151, 152, 153, 154, 155, 156, 157, 158, 159, 160, 161, 162, 163, 164, 165, 166, 167, 168, 169, 170, 171, 172, 173, 174, 175, 176, 177, 178, 179, 180, 181, 182, 183, 184] (by decide +kernel) (by decide +kernel)
set_option maxRecDepth 20000 in
theorem gX7_tick_X7_settle : GoodIn wsX7_tick (wsV RX7 206 RX7 yX7_settle wsX7_settle) := goodIn_app (goodIn_of _ (by decide +kernel)) ggX7_tick_X7_settle
theorem dX7_tick_0 : decode cX7_tick 0 = .ok (.aload_n 0, 1) := by decide +kernel
theorem dX7_tick_1 : decode cX7_tick 1 = .ok (.iconst 0, 1) := by decide +kernel
theorem dX7_tick_2 : decode cX7_tick 2 = .ok (.putfield 7, 3) := by decide +kernel
theorem dX7_tick_5 : decode cX7_tick 5 = .ok (.iconst 0, 1) := by decide +kernel
theorem dX7_tick_6 : decode cX7_tick 6 = .ok (.istore_n 1, 1) := by decide +kernel
theorem dX7_tick_7 : decode cX7_tick 7 = .ok (.iload_n 1, 1) := by decide +kernel
theorem dX7_tick_8 : decode cX7_tick 8 = .ok (.iconst 4, 1) := by decide +kernel
theorem dX7_tick_9 : decode cX7_tick 9 = .ok (.if_icmp .ge 80, 3) := by decide +kernel
theorem dX7_tick_12 : decode cX7_tick 12 = .ok (.aload_n 0, 1) := by decide +kernel
theorem dX7_tick_13 : decode cX7_tick 13 = .ok (.iload_n 1, 1) := by decide +kernel
theorem dX7_tick_14 : decode cX7_tick 14 = .ok (.invokevirtual 227, 3) := by decide +kernel
theorem dX7_tick_17 : decode cX7_tick 17 = .ok (.aload_n 0, 1) := by decide +kernel
theorem dX7_tick_18 : decode cX7_tick 18 = .ok (.getfield 39, 3) := by decide +kernel
theorem dX7_tick_21 : decode cX7_tick 21 = .ok (.iload_n 1, 1) := by decide +kernel
theorem dX7_tick_22 : decode cX7_tick 22 = .ok (.dup2, 1) := by decide +kernel
theorem dX7_tick_23 : decode cX7_tick 23 = .ok (.iaload, 1) := by decide +kernel
theorem dX7_tick_24 : decode cX7_tick 24 = .ok (.iconst 1, 1) := by decide +kernel
theorem dX7_tick_25 : decode cX7_tick 25 = .ok (.iadd, 1) := by decide +kernel
theorem dX7_tick_26 : decode cX7_tick 26 = .ok (.iastore, 1) := by decide +kernel
theorem dX7_tick_27 : decode cX7_tick 27 = .ok (.aload_n 0, 1) := by decide +kernel
theorem dX7_tick_28 : decode cX7_tick 28 = .ok (.iload_n 1, 1) := by decide +kernel
theorem dX7_tick_29 : decode cX7_tick 29 = .ok (.invokevirtual 144, 3) := by decide +kernel
theorem dX7_tick_32 : decode cX7_tick 32 = .ok (.ifCond .ne 41, 3) := by decide +kernel
theorem dX7_tick_35 : decode cX7_tick 35 = .ok (.aload_n 0, 1) := by decide +kernel
theorem dX7_tick_36 : decode cX7_tick 36 = .ok (.iload_n 1, 1) := by decide +kernel
theorem dX7_tick_37 : decode cX7_tick 37 = .ok (.bipush 13, 2) := by decide +kernel
theorem dX7_tick_39 : decode cX7_tick 39 = .ok (.invokevirtual 147, 3) := by decide +kernel
theorem dX7_tick_42 : decode cX7_tick 42 = .ok (.ifCond .le 31, 3) := by decide +kernel
theorem dX7_tick_45 : decode cX7_tick 45 = .ok (.aload_n 0, 1) := by decide +kernel
theorem dX7_tick_46 : decode cX7_tick 46 = .ok (.getfield 39, 3) := by decide +kernel
theorem dX7_tick_49 : decode cX7_tick 49 = .ok (.iload_n 1, 1) := by decide +kernel
theorem dX7_tick_50 : decode cX7_tick 50 = .ok (.iaload, 1) := by decide +kernel
theorem dX7_tick_51 : decode cX7_tick 51 = .ok (.aload_n 0, 1) := by decide +kernel
theorem dX7_tick_52 : decode cX7_tick 52 = .ok (.iload_n 1, 1) := by decide +kernel
theorem dX7_tick_53 : decode cX7_tick 53 = .ok (.bipush 13, 2) := by decide +kernel
theorem dX7_tick_55 : decode cX7_tick 55 = .ok (.invokevirtual 147, 3) := by decide +kernel
theorem dX7_tick_58 : decode cX7_tick 58 = .ok (.if_icmp .lt 15, 3) := by decide +kernel
theorem dX7_tick_61 : decode cX7_tick 61 = .ok (.aload_n 0, 1) := by decide +kernel
theorem dX7_tick_62 : decode cX7_tick 62 = .ok (.getfield 36, 3) := by decide +kernel
theorem dX7_tick_65 : decode cX7_tick 65 = .ok (.iload_n 1, 1) := by decide +kernel
theorem dX7_tick_66 : decode cX7_tick 66 = .ok (.aload_n 0, 1) := by decide +kernel
theorem dX7_tick_67 : decode cX7_tick 67 = .ok (.getfield 33, 3) := by decide +kernel
theorem dX7_tick_70 : decode cX7_tick 70 = .ok (.iload_n 1, 1) := by decide +kernel
theorem dX7_tick_71 : decode cX7_tick 71 = .ok (.iaload, 1) := by decide +kernel
theorem dX7_tick_72 : decode cX7_tick 72 = .ok (.iastore, 1) := by decide +kernel
theorem dX7_tick_73 : decode cX7_tick 73 = .ok (.aload_n 0, 1) := by decide +kernel
theorem dX7_tick_74 : decode cX7_tick 74 = .ok (.iload_n 1, 1) := by decide +kernel
theorem dX7_tick_75 : decode cX7_tick 75 = .ok (.invokevirtual 212, 3) := by decide +kernel
theorem dX7_tick_78 : decode cX7_tick 78 = .ok (.aload_n 0, 1) := by decide +kernel
theorem dX7_tick_79 : decode cX7_tick 79 = .ok (.iload_n 1, 1) := by decide +kernel
theorem dX7_tick_80 : decode cX7_tick 80 = .ok (.invokevirtual 206, 3) := by decide +kernel
theorem dX7_tick_83 : decode cX7_tick 83 = .ok (.iinc 1 1, 3) := by decide +kernel
theorem dX7_tick_86 : decode cX7_tick 86 = .ok (.goto (-79), 3) := by decide +kernel
theorem dX7_tick_89 : decode cX7_tick 89 = .ok (.return_, 1) := by decide +kernel
