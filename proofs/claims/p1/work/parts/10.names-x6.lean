set_option maxRecDepth 20000 in
theorem ggX6_init_X0_init : GoodIn wsX6_init wsX0_init := goodIn_r _ [14, 15, 2, 3, 16, 17, 18, 80, 81] (by decide +kernel) (by decide +kernel)
set_option maxRecDepth 20000 in
theorem gX6_init_X0_init : GoodIn wsX6_init (wsX0_init) := ggX6_init_X0_init
set_option maxRecDepth 20000 in
theorem ggX6_init_X2_init : GoodIn wsX6_init wsX2_init := goodIn_r _ [21, 22, 2, 3, 23, 24, 25, 26, 27, 28, 29, 30, 31, 32, 33, 34, 35, 36, 37, 38, 39, 40, 41, 42, 43, 44, 45, 46, 47, 48, 16, 49, 50, 51, 52, 53, 54, 55, 56, 57, 58, 59, 60, 61, 62, 63, 64, 65, 66, 67, 68, 69, 70, 71, 72, 73, 74, 75, 76, 77, 78, 79, 84, 85, 86, 87, 88, 89, 90, 91, 92, 93, 94, 95, 96, 97, 98, 99, 100, 101, 102, 103, 104, 105, 106, 107, 108, 109, 110, 111, 112, 113, 114] (by decide +kernel) (by decide +kernel)
set_option maxRecDepth 20000 in
theorem gX6_init_X2_init : GoodIn wsX6_init (wsX2_init) := ggX6_init_X2_init
theorem dX6_init_0 : decode cX6_init 0 = .ok (.aload_n 0, 1) := by decide +kernel
theorem dX6_init_1 : decode cX6_init 1 = .ok (.invokespecial 3, 3) := by decide +kernel
theorem dX6_init_4 : decode cX6_init 4 = .ok (.aload_n 0, 1) := by decide +kernel
theorem dX6_init_5 : decode cX6_init 5 = .ok (.new 9, 3) := by decide +kernel
theorem dX6_init_8 : decode cX6_init 8 = .ok (.dup, 1) := by decide +kernel
theorem dX6_init_9 : decode cX6_init 9 = .ok (.invokespecial 11, 3) := by decide +kernel
theorem dX6_init_12 : decode cX6_init 12 = .ok (.putfield 12, 3) := by decide +kernel
theorem dX6_init_15 : decode cX6_init 15 = .ok (.aload_n 0, 1) := by decide +kernel
theorem dX6_init_16 : decode cX6_init 16 = .ok (.iconst 4, 1) := by decide +kernel
theorem dX6_init_17 : decode cX6_init 17 = .ok (.anewarray 16, 3) := by decide +kernel
theorem dX6_init_20 : decode cX6_init 20 = .ok (.putfield 18, 3) := by decide +kernel
theorem dX6_init_23 : decode cX6_init 23 = .ok (.iconst 0, 1) := by decide +kernel
theorem dX6_init_24 : decode cX6_init 24 = .ok (.istore_n 1, 1) := by decide +kernel
theorem dX6_init_25 : decode cX6_init 25 = .ok (.iload_n 1, 1) := by decide +kernel
theorem dX6_init_26 : decode cX6_init 26 = .ok (.iconst 4, 1) := by decide +kernel
theorem dX6_init_27 : decode cX6_init 27 = .ok (.if_icmp .ge 26, 3) := by decide +kernel
theorem dX6_init_30 : decode cX6_init 30 = .ok (.aload_n 0, 1) := by decide +kernel
theorem dX6_init_31 : decode cX6_init 31 = .ok (.getfield 18, 3) := by decide +kernel
theorem dX6_init_34 : decode cX6_init 34 = .ok (.iload_n 1, 1) := by decide +kernel
theorem dX6_init_35 : decode cX6_init 35 = .ok (.new 16, 3) := by decide +kernel
theorem dX6_init_38 : decode cX6_init 38 = .ok (.dup, 1) := by decide +kernel
theorem dX6_init_39 : decode cX6_init 39 = .ok (.aload_n 0, 1) := by decide +kernel
theorem dX6_init_40 : decode cX6_init 40 = .ok (.getfield 12, 3) := by decide +kernel
theorem dX6_init_43 : decode cX6_init 43 = .ok (.invokespecial 22, 3) := by decide +kernel
theorem dX6_init_46 : decode cX6_init 46 = .ok (.aastore, 1) := by decide +kernel
theorem dX6_init_47 : decode cX6_init 47 = .ok (.iinc 1 1, 3) := by decide +kernel
theorem dX6_init_50 : decode cX6_init 50 = .ok (.goto (-25), 3) := by decide +kernel
theorem dX6_init_53 : decode cX6_init 53 = .ok (.return_, 1) := by decide +kernel
set_option maxRecDepth 20000 in
theorem ggX6_receive_X6_isPort : GoodIn wsX6_receive wsX6_isPort := goodIn_r _ [5] (by decide +kernel) (by decide +kernel)
set_option maxRecDepth 20000 in
theorem gX6_receive_X6_isPort : GoodIn wsX6_receive (va_wsS RX6 25 yX6_isPort wsX6_isPort) := goodIn_app (goodIn_of _ (by decide +kernel)) ggX6_receive_X6_isPort
set_option maxRecDepth 20000 in
theorem ggX6_receive_X6_isByte : GoodIn wsX6_receive wsX6_isByte := goodIn_r _ [8] (by decide +kernel) (by decide +kernel)
set_option maxRecDepth 20000 in
theorem gX6_receive_X6_isByte : GoodIn wsX6_receive (va_wsS RX6 29 yX6_isByte wsX6_isByte) := goodIn_app (goodIn_of _ (by decide +kernel)) ggX6_receive_X6_isByte
set_option maxRecDepth 20000 in
theorem ggX6_receive_X2_takeFromLine : GoodIn wsX6_receive wsX2_takeFromLine := goodIn_r _ [13, 14, 15, 16, 17, 18, 19, 20, 21, 22, 23, 24, 25, 26, 27, 30, 31, 32, 33, 34, 35, 36, 37, 38, 39, 40, 41, 42, 43, 44, 45, 46, 47] (by decide +kernel) (by decide +kernel)
set_option maxRecDepth 20000 in
theorem gX6_receive_X2_takeFromLine : GoodIn wsX6_receive (wsV RX6 32 RX2 yX2_takeFromLine wsX2_takeFromLine) := goodIn_app (goodIn_of _ (by decide +kernel)) ggX6_receive_X2_takeFromLine
theorem dX6_receive_0 : decode cX6_receive 0 = .ok (.iload_n 1, 1) := by decide +kernel
theorem dX6_receive_1 : decode cX6_receive 1 = .ok (.invokestatic 25, 3) := by decide +kernel
theorem dX6_receive_4 : decode cX6_receive 4 = .ok (.ifCond .eq 19, 3) := by decide +kernel
theorem dX6_receive_7 : decode cX6_receive 7 = .ok (.iload_n 2, 1) := by decide +kernel
theorem dX6_receive_8 : decode cX6_receive 8 = .ok (.invokestatic 29, 3) := by decide +kernel
theorem dX6_receive_11 : decode cX6_receive 11 = .ok (.ifCond .eq 12, 3) := by decide +kernel
theorem dX6_receive_14 : decode cX6_receive 14 = .ok (.iload_n 3, 1) := by decide +kernel
theorem dX6_receive_15 : decode cX6_receive 15 = .ok (.ifCond .lt 8, 3) := by decide +kernel
theorem dX6_receive_18 : decode cX6_receive 18 = .ok (.iload_n 3, 1) := by decide +kernel
theorem dX6_receive_19 : decode cX6_receive 19 = .ok (.iconst 3, 1) := by decide +kernel
theorem dX6_receive_20 : decode cX6_receive 20 = .ok (.if_icmp .le 5, 3) := by decide +kernel
theorem dX6_receive_23 : decode cX6_receive 23 = .ok (.iconst 0, 1) := by decide +kernel
theorem dX6_receive_24 : decode cX6_receive 24 = .ok (.ireturn, 1) := by decide +kernel
theorem dX6_receive_25 : decode cX6_receive 25 = .ok (.aload_n 0, 1) := by decide +kernel
theorem dX6_receive_26 : decode cX6_receive 26 = .ok (.getfield 18, 3) := by decide +kernel
theorem dX6_receive_29 : decode cX6_receive 29 = .ok (.iload_n 1, 1) := by decide +kernel
theorem dX6_receive_30 : decode cX6_receive 30 = .ok (.aaload, 1) := by decide +kernel
theorem dX6_receive_31 : decode cX6_receive 31 = .ok (.iload_n 2, 1) := by decide +kernel
theorem dX6_receive_32 : decode cX6_receive 32 = .ok (.iload_n 3, 1) := by decide +kernel
theorem dX6_receive_33 : decode cX6_receive 33 = .ok (.invokevirtual 32, 3) := by decide +kernel
theorem dX6_receive_36 : decode cX6_receive 36 = .ok (.ireturn, 1) := by decide +kernel
set_option maxRecDepth 20000 in
theorem ggX6_transmit_X6_isPort : GoodIn wsX6_transmit wsX6_isPort := goodIn_r _ [5] (by decide +kernel) (by decide +kernel)
set_option maxRecDepth 20000 in
theorem gX6_transmit_X6_isPort : GoodIn wsX6_transmit (va_wsS RX6 25 yX6_isPort wsX6_isPort) := goodIn_app (goodIn_of _ (by decide +kernel)) ggX6_transmit_X6_isPort
set_option maxRecDepth 20000 in
theorem ggX6_transmit_X1_push : GoodIn wsX6_transmit wsX1_push := goodIn_r _ [10, 11, 12, 13, 14, 15, 16, 17, 18, 19, 20, 21, 22, 23, 24, 25, 26, 27, 28, 141, 142, 143, 144, 145, 146, 147, 148] (by decide +kernel) (by decide +kernel)
set_option maxRecDepth 20000 in
theorem gX6_transmit_X1_push : GoodIn wsX6_transmit (wsV RX6 40 RX1 yX1_push wsX1_push) := goodIn_app (goodIn_of _ (by decide +kernel)) ggX6_transmit_X1_push
set_option maxRecDepth 20000 in
theorem ggX6_transmit_X2_giveToLine : GoodIn wsX6_transmit wsX2_giveToLine := goodIn_r _ [33, 34, 35, 36, 37, 38, 39, 40, 32, 41, 42, 43, 44, 45, 9, 46, 47, 48, 11, 20, 21, 22, 16, 23, 19, 18, 24, 49, 50, 51, 52, 53, 54, 55, 56, 57, 58, 59, 126, 127, 128, 129, 130, 131, 132, 133, 134, 135, 136, 137, 138, 139, 140, 141, 142, 143, 144, 145, 146, 147, 148, 149, 150, 151, 152, 153] (by decide +kernel) (by decide +kernel)
set_option maxRecDepth 20000 in
theorem gX6_transmit_X2_giveToLine : GoodIn wsX6_transmit (wsV RX6 45 RX2 yX2_giveToLine wsX2_giveToLine) := goodIn_app (goodIn_of _ (by decide +kernel)) ggX6_transmit_X2_giveToLine
set_option maxRecDepth 20000 in
theorem ggX6_transmit_X2_settle : GoodIn wsX6_transmit wsX2_settle := goodIn_r _ [63, 35, 64, 7, 8, 9, 10, 11, 12, 13, 14, 15, 16, 17, 18, 19, 20, 21, 22, 23, 24, 25, 26, 27, 28, 65, 66, 67, 32, 68, 36, 69, 70, 71, 52, 72, 54, 55, 73, 74, 75, 76, 77, 78, 79, 80, 81, 82, 83, 84, 85, 86, 87, 88, 89, 90, 91, 92, 93, 34, 94, 95, 96, 97, 42, 98, 99, 100, 101, 102, 103, 104, 105, 106, 107, 108, 109, 110, 111, 112, 57, 58, 59, 113, 114, 115, 116, 117, 118, 119, 120, 121, 122, 123, 56, 126, 127, 128, 129, 130, 131, 132, 133, 134, 135, 136, 137, 138, 139, 140, 141, 142, 143, 144, 145, 146, 147, 148, 149, 150, 151, 152, 153, 154, 155, 156] (by decide +kernel) (by decide +kernel)
set_option maxRecDepth 20000 in
theorem gX6_transmit_X2_settle : GoodIn wsX6_transmit (wsV RX6 49 RX2 yX2_settle wsX2_settle) := goodIn_app (goodIn_of _ (by decide +kernel)) ggX6_transmit_X2_settle
theorem dX6_transmit_0 : decode cX6_transmit 0 = .ok (.iload_n 1, 1) := by decide +kernel
theorem dX6_transmit_1 : decode cX6_transmit 1 = .ok (.invokestatic 25, 3) := by decide +kernel
theorem dX6_transmit_4 : decode cX6_transmit 4 = .ok (.ifCond .ne 5, 3) := by decide +kernel
theorem dX6_transmit_7 : decode cX6_transmit 7 = .ok (.iconst (-1), 1) := by decide +kernel
theorem dX6_transmit_8 : decode cX6_transmit 8 = .ok (.ireturn, 1) := by decide +kernel
theorem dX6_transmit_9 : decode cX6_transmit 9 = .ok (.aload_n 0, 1) := by decide +kernel
theorem dX6_transmit_10 : decode cX6_transmit 10 = .ok (.getfield 18, 3) := by decide +kernel
theorem dX6_transmit_13 : decode cX6_transmit 13 = .ok (.iload_n 1, 1) := by decide +kernel
theorem dX6_transmit_14 : decode cX6_transmit 14 = .ok (.aaload, 1) := by decide +kernel
theorem dX6_transmit_15 : decode cX6_transmit 15 = .ok (.astore_n 2, 1) := by decide +kernel
theorem dX6_transmit_16 : decode cX6_transmit 16 = .ok (.aload_n 2, 1) := by decide +kernel
theorem dX6_transmit_17 : decode cX6_transmit 17 = .ok (.getfield 36, 3) := by decide +kernel
theorem dX6_transmit_20 : decode cX6_transmit 20 = .ok (.invokevirtual 40, 3) := by decide +kernel
theorem dX6_transmit_23 : decode cX6_transmit 23 = .ok (.aload_n 2, 1) := by decide +kernel
theorem dX6_transmit_24 : decode cX6_transmit 24 = .ok (.invokevirtual 45, 3) := by decide +kernel
theorem dX6_transmit_27 : decode cX6_transmit 27 = .ok (.istore_n 3, 1) := by decide +kernel
theorem dX6_transmit_28 : decode cX6_transmit 28 = .ok (.aload_n 2, 1) := by decide +kernel
theorem dX6_transmit_29 : decode cX6_transmit 29 = .ok (.invokevirtual 49, 3) := by decide +kernel
theorem dX6_transmit_32 : decode cX6_transmit 32 = .ok (.iload_n 3, 1) := by decide +kernel
theorem dX6_transmit_33 : decode cX6_transmit 33 = .ok (.ireturn, 1) := by decide +kernel
set_option maxRecDepth 20000 in
theorem ggX6_held_X6_isPort : GoodIn wsX6_held wsX6_isPort := goodIn_r _ [5] (by decide +kernel) (by decide +kernel)
set_option maxRecDepth 20000 in
theorem gX6_held_X6_isPort : GoodIn wsX6_held (va_wsS RX6 25 yX6_isPort wsX6_isPort) := goodIn_app (goodIn_of _ (by decide +kernel)) ggX6_held_X6_isPort
set_option maxRecDepth 20000 in
theorem ggX6_held_X2_urgentByte : GoodIn wsX6_held wsX2_urgentByte := goodIn_r _ [10, 11, 12, 22, 23, 24, 25, 26, 27, 28, 29, 30, 31, 32, 33, 34, 35, 36] (by decide +kernel) (by decide +kernel)
set_option maxRecDepth 20000 in
theorem gX6_held_X2_urgentByte : GoodIn wsX6_held (wsV RX6 52 RX2 yX2_urgentByte wsX2_urgentByte) := goodIn_app (goodIn_of _ (by decide +kernel)) ggX6_held_X2_urgentByte
set_option maxRecDepth 20000 in
theorem ggX6_held_X1_size : GoodIn wsX6_held wsX1_size := goodIn_r _ [17, 18, 19, 37, 38, 39, 40, 41, 42, 43, 44] (by decide +kernel) (by decide +kernel)
set_option maxRecDepth 20000 in
theorem gX6_held_X1_size : GoodIn wsX6_held (wsV RX6 55 RX1 yX1_size wsX1_size) := goodIn_app (goodIn_of _ (by decide +kernel)) ggX6_held_X1_size
theorem dX6_held_0 : decode cX6_held 0 = .ok (.iload_n 1, 1) := by decide +kernel
theorem dX6_held_1 : decode cX6_held 1 = .ok (.invokestatic 25, 3) := by decide +kernel
theorem dX6_held_4 : decode cX6_held 4 = .ok (.ifCond .ne 5, 3) := by decide +kernel
theorem dX6_held_7 : decode cX6_held 7 = .ok (.iconst (-1), 1) := by decide +kernel
theorem dX6_held_8 : decode cX6_held 8 = .ok (.ireturn, 1) := by decide +kernel
theorem dX6_held_9 : decode cX6_held 9 = .ok (.aload_n 0, 1) := by decide +kernel
theorem dX6_held_10 : decode cX6_held 10 = .ok (.getfield 18, 3) := by decide +kernel
theorem dX6_held_13 : decode cX6_held 13 = .ok (.iload_n 1, 1) := by decide +kernel
theorem dX6_held_14 : decode cX6_held 14 = .ok (.aaload, 1) := by decide +kernel
theorem dX6_held_15 : decode cX6_held 15 = .ok (.astore_n 2, 1) := by decide +kernel
theorem dX6_held_16 : decode cX6_held 16 = .ok (.aload_n 2, 1) := by decide +kernel
theorem dX6_held_17 : decode cX6_held 17 = .ok (.getfield 36, 3) := by decide +kernel
theorem dX6_held_20 : decode cX6_held 20 = .ok (.astore_n 3, 1) := by decide +kernel
theorem dX6_held_21 : decode cX6_held 21 = .ok (.aload_n 2, 1) := by decide +kernel
theorem dX6_held_22 : decode cX6_held 22 = .ok (.invokevirtual 52, 3) := by decide +kernel
theorem dX6_held_25 : decode cX6_held 25 = .ok (.sipush 256, 3) := by decide +kernel
theorem dX6_held_28 : decode cX6_held 28 = .ok (.if_icmp .eq 5, 3) := by decide +kernel
theorem dX6_held_31 : decode cX6_held 31 = .ok (.iconst 0, 1) := by decide +kernel
theorem dX6_held_32 : decode cX6_held 32 = .ok (.ireturn, 1) := by decide +kernel
theorem dX6_held_33 : decode cX6_held 33 = .ok (.aload_n 3, 1) := by decide +kernel
theorem dX6_held_34 : decode cX6_held 34 = .ok (.invokevirtual 55, 3) := by decide +kernel
theorem dX6_held_37 : decode cX6_held 37 = .ok (.ifCond .ne 5, 3) := by decide +kernel
theorem dX6_held_40 : decode cX6_held 40 = .ok (.iconst 1, 1) := by decide +kernel
theorem dX6_held_41 : decode cX6_held 41 = .ok (.ireturn, 1) := by decide +kernel
theorem dX6_held_42 : decode cX6_held 42 = .ok (.aload_n 3, 1) := by decide +kernel
theorem dX6_held_43 : decode cX6_held 43 = .ok (.getfield 58, 3) := by decide +kernel
theorem dX6_held_46 : decode cX6_held 46 = .ok (.ifCond .eq 5, 3) := by decide +kernel
theorem dX6_held_49 : decode cX6_held 49 = .ok (.iconst 2, 1) := by decide +kernel
theorem dX6_held_50 : decode cX6_held 50 = .ok (.ireturn, 1) := by decide +kernel
theorem dX6_held_51 : decode cX6_held 51 = .ok (.aload_n 3, 1) := by decide +kernel
theorem dX6_held_52 : decode cX6_held 52 = .ok (.getfield 62, 3) := by decide +kernel
theorem dX6_held_55 : decode cX6_held 55 = .ok (.ifCond .eq 7, 3) := by decide +kernel
theorem dX6_held_58 : decode cX6_held 58 = .ok (.iconst 0, 1) := by decide +kernel
theorem dX6_held_59 : decode cX6_held 59 = .ok (.goto 4, 3) := by decide +kernel
theorem dX6_held_62 : decode cX6_held 62 = .ok (.iconst 3, 1) := by decide +kernel
theorem dX6_held_63 : decode cX6_held 63 = .ok (.ireturn, 1) := by decide +kernel
set_option maxRecDepth 20000 in
theorem ggX6_carrier_X6_isPort : GoodIn wsX6_carrier wsX6_isPort := goodIn_r _ [5] (by decide +kernel) (by decide +kernel)
set_option maxRecDepth 20000 in
theorem gX6_carrier_X6_isPort : GoodIn wsX6_carrier (va_wsS RX6 25 yX6_isPort wsX6_isPort) := goodIn_app (goodIn_of _ (by decide +kernel)) ggX6_carrier_X6_isPort
set_option maxRecDepth 20000 in
theorem ggX6_carrier_X2_hangUp : GoodIn wsX6_carrier wsX2_hangUp := goodIn_r _ [10, 11, 12, 13, 14, 15, 16, 17, 18, 19, 20, 21, 22, 23, 9, 24, 25, 26, 27, 28, 29, 30, 31, 32, 33, 34, 35, 36, 37, 38, 39, 40, 41, 42, 43, 44, 45, 46, 47, 48, 49, 50, 51, 52, 53, 54, 55, 56, 57, 58, 59, 60, 61, 62, 63, 64, 65, 66, 67, 68, 69, 70, 71, 72, 73, 74, 75, 76, 77, 78, 79, 80, 81, 82, 83, 84, 85, 86, 87, 88, 89, 90, 91, 92, 93, 94, 95, 96, 97, 98, 99, 100, 101, 102, 103, 104, 105, 106, 107, 108, 109, 110, 111, 112, 115, 116, 117, 118, 119, 120, 121, 122, 123, 124, 125, 126, 127, 128, 129, 130, 131, 132, 133, 134, 135, 136, 137, 138, 139, 140, 141, 142, 143, 144, 145, 146, 147] (by decide +kernel) (by decide +kernel)
set_option maxRecDepth 20000 in
theorem gX6_carrier_X2_hangUp : GoodIn wsX6_carrier (wsV RX6 68 RX2 yX2_hangUp wsX2_hangUp) := goodIn_app (goodIn_of _ (by decide +kernel)) ggX6_carrier_X2_hangUp
theorem dX6_carrier_0 : decode cX6_carrier 0 = .ok (.iload_n 1, 1) := by decide +kernel
theorem dX6_carrier_1 : decode cX6_carrier 1 = .ok (.invokestatic 25, 3) := by decide +kernel
theorem dX6_carrier_4 : decode cX6_carrier 4 = .ok (.ifCond .ne 5, 3) := by decide +kernel
theorem dX6_carrier_7 : decode cX6_carrier 7 = .ok (.iconst 0, 1) := by decide +kernel
theorem dX6_carrier_8 : decode cX6_carrier 8 = .ok (.ireturn, 1) := by decide +kernel
theorem dX6_carrier_9 : decode cX6_carrier 9 = .ok (.aload_n 0, 1) := by decide +kernel
theorem dX6_carrier_10 : decode cX6_carrier 10 = .ok (.getfield 18, 3) := by decide +kernel
theorem dX6_carrier_13 : decode cX6_carrier 13 = .ok (.iload_n 1, 1) := by decide +kernel
theorem dX6_carrier_14 : decode cX6_carrier 14 = .ok (.aaload, 1) := by decide +kernel
theorem dX6_carrier_15 : decode cX6_carrier 15 = .ok (.astore_n 3, 1) := by decide +kernel
theorem dX6_carrier_16 : decode cX6_carrier 16 = .ok (.aload_n 3, 1) := by decide +kernel
theorem dX6_carrier_17 : decode cX6_carrier 17 = .ok (.getfield 65, 3) := by decide +kernel
theorem dX6_carrier_20 : decode cX6_carrier 20 = .ok (.ifCond .eq 11, 3) := by decide +kernel
theorem dX6_carrier_23 : decode cX6_carrier 23 = .ok (.iload_n 2, 1) := by decide +kernel
theorem dX6_carrier_24 : decode cX6_carrier 24 = .ok (.ifCond .ne 7, 3) := by decide +kernel
theorem dX6_carrier_27 : decode cX6_carrier 27 = .ok (.iconst 1, 1) := by decide +kernel
theorem dX6_carrier_28 : decode cX6_carrier 28 = .ok (.goto 4, 3) := by decide +kernel
theorem dX6_carrier_31 : decode cX6_carrier 31 = .ok (.iconst 0, 1) := by decide +kernel
theorem dX6_carrier_32 : decode cX6_carrier 32 = .ok (.istore 4, 2) := by decide +kernel
theorem dX6_carrier_34 : decode cX6_carrier 34 = .ok (.aload_n 3, 1) := by decide +kernel
theorem dX6_carrier_35 : decode cX6_carrier 35 = .ok (.iload_n 2, 1) := by decide +kernel
theorem dX6_carrier_36 : decode cX6_carrier 36 = .ok (.putfield 65, 3) := by decide +kernel
theorem dX6_carrier_39 : decode cX6_carrier 39 = .ok (.iload 4, 2) := by decide +kernel
theorem dX6_carrier_41 : decode cX6_carrier 41 = .ok (.ifCond .eq 7, 3) := by decide +kernel
theorem dX6_carrier_44 : decode cX6_carrier 44 = .ok (.aload_n 3, 1) := by decide +kernel
theorem dX6_carrier_45 : decode cX6_carrier 45 = .ok (.invokevirtual 68, 3) := by decide +kernel
theorem dX6_carrier_48 : decode cX6_carrier 48 = .ok (.iconst 1, 1) := by decide +kernel
theorem dX6_carrier_49 : decode cX6_carrier 49 = .ok (.ireturn, 1) := by decide +kernel
set_option maxRecDepth 20000 in
theorem ggX6_clear_X6_isPort : GoodIn wsX6_clear wsX6_isPort := goodIn_r _ [5] (by decide +kernel) (by decide +kernel)
set_option maxRecDepth 20000 in
theorem gX6_clear_X6_isPort : GoodIn wsX6_clear (va_wsS RX6 25 yX6_isPort wsX6_isPort) := goodIn_app (goodIn_of _ (by decide +kernel)) ggX6_clear_X6_isPort
theorem dX6_clear_0 : decode cX6_clear 0 = .ok (.iload_n 1, 1) := by decide +kernel
theorem dX6_clear_1 : decode cX6_clear 1 = .ok (.invokestatic 25, 3) := by decide +kernel
theorem dX6_clear_4 : decode cX6_clear 4 = .ok (.ifCond .ne 5, 3) := by decide +kernel
theorem dX6_clear_7 : decode cX6_clear 7 = .ok (.iconst 0, 1) := by decide +kernel
theorem dX6_clear_8 : decode cX6_clear 8 = .ok (.ireturn, 1) := by decide +kernel
theorem dX6_clear_9 : decode cX6_clear 9 = .ok (.aload_n 0, 1) := by decide +kernel
theorem dX6_clear_10 : decode cX6_clear 10 = .ok (.getfield 18, 3) := by decide +kernel
theorem dX6_clear_13 : decode cX6_clear 13 = .ok (.iload_n 1, 1) := by decide +kernel
theorem dX6_clear_14 : decode cX6_clear 14 = .ok (.aaload, 1) := by decide +kernel
theorem dX6_clear_15 : decode cX6_clear 15 = .ok (.getfield 36, 3) := by decide +kernel
theorem dX6_clear_18 : decode cX6_clear 18 = .ok (.iload_n 2, 1) := by decide +kernel
theorem dX6_clear_19 : decode cX6_clear 19 = .ok (.putfield 62, 3) := by decide +kernel
theorem dX6_clear_22 : decode cX6_clear 22 = .ok (.iconst 1, 1) := by decide +kernel
theorem dX6_clear_23 : decode cX6_clear 23 = .ok (.ireturn, 1) := by decide +kernel
set_option maxRecDepth 20000 in
theorem ggX6_open_X6_isProcess : GoodIn wsX6_open wsX6_isProcess := goodIn_r _ [5] (by decide +kernel) (by decide +kernel)
set_option maxRecDepth 20000 in
theorem gX6_open_X6_isProcess : GoodIn wsX6_open (va_wsS RX6 71 yX6_isProcess wsX6_isProcess) := goodIn_app (goodIn_of _ (by decide +kernel)) ggX6_open_X6_isProcess
set_option maxRecDepth 20000 in
theorem ggX6_open_X6_isPort : GoodIn wsX6_open wsX6_isPort := goodIn_r _ [8] (by decide +kernel) (by decide +kernel)
set_option maxRecDepth 20000 in
theorem gX6_open_X6_isPort : GoodIn wsX6_open (va_wsS RX6 25 yX6_isPort wsX6_isPort) := goodIn_app (goodIn_of _ (by decide +kernel)) ggX6_open_X6_isPort
set_option maxRecDepth 20000 in
theorem ggX6_open_X2_openFor : GoodIn wsX6_open wsX2_openFor := goodIn_r _ [13, 14, 15, 16, 19, 20, 21, 22, 23, 24, 25, 26, 27, 28, 29, 30, 31, 32, 33] (by decide +kernel) (by decide +kernel)
set_option maxRecDepth 20000 in
theorem gX6_open_X2_openFor : GoodIn wsX6_open (wsV RX6 74 RX2 yX2_openFor wsX2_openFor) := goodIn_app (goodIn_of _ (by decide +kernel)) ggX6_open_X2_openFor
theorem dX6_open_0 : decode cX6_open 0 = .ok (.iload_n 1, 1) := by decide +kernel
theorem dX6_open_1 : decode cX6_open 1 = .ok (.invokestatic 71, 3) := by decide +kernel
theorem dX6_open_4 : decode cX6_open 4 = .ok (.ifCond .eq 10, 3) := by decide +kernel
theorem dX6_open_7 : decode cX6_open 7 = .ok (.iload_n 2, 1) := by decide +kernel
theorem dX6_open_8 : decode cX6_open 8 = .ok (.invokestatic 25, 3) := by decide +kernel
theorem dX6_open_11 : decode cX6_open 11 = .ok (.ifCond .ne 5, 3) := by decide +kernel
theorem dX6_open_14 : decode cX6_open 14 = .ok (.iconst 0, 1) := by decide +kernel
theorem dX6_open_15 : decode cX6_open 15 = .ok (.ireturn, 1) := by decide +kernel
theorem dX6_open_16 : decode cX6_open 16 = .ok (.aload_n 0, 1) := by decide +kernel
theorem dX6_open_17 : decode cX6_open 17 = .ok (.getfield 18, 3) := by decide +kernel
theorem dX6_open_20 : decode cX6_open 20 = .ok (.iload_n 2, 1) := by decide +kernel
theorem dX6_open_21 : decode cX6_open 21 = .ok (.aaload, 1) := by decide +kernel
theorem dX6_open_22 : decode cX6_open 22 = .ok (.iload_n 1, 1) := by decide +kernel
theorem dX6_open_23 : decode cX6_open 23 = .ok (.invokevirtual 74, 3) := by decide +kernel
theorem dX6_open_26 : decode cX6_open 26 = .ok (.ireturn, 1) := by decide +kernel
set_option maxRecDepth 20000 in
theorem ggX6_close_X6_isProcess : GoodIn wsX6_close wsX6_isProcess := goodIn_r _ [5] (by decide +kernel) (by decide +kernel)
set_option maxRecDepth 20000 in
theorem gX6_close_X6_isProcess : GoodIn wsX6_close (va_wsS RX6 71 yX6_isProcess wsX6_isProcess) := goodIn_app (goodIn_of _ (by decide +kernel)) ggX6_close_X6_isProcess
set_option maxRecDepth 20000 in
theorem ggX6_close_X6_isPort : GoodIn wsX6_close wsX6_isPort := goodIn_r _ [8] (by decide +kernel) (by decide +kernel)
set_option maxRecDepth 20000 in
theorem gX6_close_X6_isPort : GoodIn wsX6_close (va_wsS RX6 25 yX6_isPort wsX6_isPort) := goodIn_app (goodIn_of _ (by decide +kernel)) ggX6_close_X6_isPort
theorem dX6_close_0 : decode cX6_close 0 = .ok (.iload_n 1, 1) := by decide +kernel
theorem dX6_close_1 : decode cX6_close 1 = .ok (.invokestatic 71, 3) := by decide +kernel
theorem dX6_close_4 : decode cX6_close 4 = .ok (.ifCond .eq 10, 3) := by decide +kernel
theorem dX6_close_7 : decode cX6_close 7 = .ok (.iload_n 2, 1) := by decide +kernel
theorem dX6_close_8 : decode cX6_close 8 = .ok (.invokestatic 25, 3) := by decide +kernel
theorem dX6_close_11 : decode cX6_close 11 = .ok (.ifCond .ne 5, 3) := by decide +kernel
theorem dX6_close_14 : decode cX6_close 14 = .ok (.iconst 0, 1) := by decide +kernel
theorem dX6_close_15 : decode cX6_close 15 = .ok (.ireturn, 1) := by decide +kernel
theorem dX6_close_16 : decode cX6_close 16 = .ok (.aload_n 0, 1) := by decide +kernel
theorem dX6_close_17 : decode cX6_close 17 = .ok (.getfield 18, 3) := by decide +kernel
theorem dX6_close_20 : decode cX6_close 20 = .ok (.iload_n 2, 1) := by decide +kernel
theorem dX6_close_21 : decode cX6_close 21 = .ok (.aaload, 1) := by decide +kernel
theorem dX6_close_22 : decode cX6_close 22 = .ok (.getfield 77, 3) := by decide +kernel
theorem dX6_close_25 : decode cX6_close 25 = .ok (.iload_n 1, 1) := by decide +kernel
theorem dX6_close_26 : decode cX6_close 26 = .ok (.baload, 1) := by decide +kernel
theorem dX6_close_27 : decode cX6_close 27 = .ok (.istore_n 3, 1) := by decide +kernel
theorem dX6_close_28 : decode cX6_close 28 = .ok (.aload_n 0, 1) := by decide +kernel
theorem dX6_close_29 : decode cX6_close 29 = .ok (.getfield 18, 3) := by decide +kernel
theorem dX6_close_32 : decode cX6_close 32 = .ok (.iload_n 2, 1) := by decide +kernel
theorem dX6_close_33 : decode cX6_close 33 = .ok (.aaload, 1) := by decide +kernel
theorem dX6_close_34 : decode cX6_close 34 = .ok (.getfield 77, 3) := by decide +kernel
theorem dX6_close_37 : decode cX6_close 37 = .ok (.iload_n 1, 1) := by decide +kernel
theorem dX6_close_38 : decode cX6_close 38 = .ok (.iconst 0, 1) := by decide +kernel
theorem dX6_close_39 : decode cX6_close 39 = .ok (.bastore, 1) := by decide +kernel
theorem dX6_close_40 : decode cX6_close 40 = .ok (.iload_n 3, 1) := by decide +kernel
theorem dX6_close_41 : decode cX6_close 41 = .ok (.ireturn, 1) := by decide +kernel
set_option maxRecDepth 20000 in
theorem ggX6_join_X6_isProcess : GoodIn wsX6_join wsX6_isProcess := goodIn_r _ [5] (by decide +kernel) (by decide +kernel)
set_option maxRecDepth 20000 in
theorem gX6_join_X6_isProcess : GoodIn wsX6_join (va_wsS RX6 71 yX6_isProcess wsX6_isProcess) := goodIn_app (goodIn_of _ (by decide +kernel)) ggX6_join_X6_isProcess
set_option maxRecDepth 20000 in
theorem ggX6_join_X6_isGroup : GoodIn wsX6_join wsX6_isGroup := goodIn_r _ [8] (by decide +kernel) (by decide +kernel)
set_option maxRecDepth 20000 in
theorem gX6_join_X6_isGroup : GoodIn wsX6_join (va_wsS RX6 81 yX6_isGroup wsX6_isGroup) := goodIn_app (goodIn_of _ (by decide +kernel)) ggX6_join_X6_isGroup
theorem dX6_join_0 : decode cX6_join 0 = .ok (.iload_n 1, 1) := by decide +kernel
theorem dX6_join_1 : decode cX6_join 1 = .ok (.invokestatic 71, 3) := by decide +kernel
theorem dX6_join_4 : decode cX6_join 4 = .ok (.ifCond .eq 10, 3) := by decide +kernel
theorem dX6_join_7 : decode cX6_join 7 = .ok (.iload_n 2, 1) := by decide +kernel
theorem dX6_join_8 : decode cX6_join 8 = .ok (.invokestatic 81, 3) := by decide +kernel
theorem dX6_join_11 : decode cX6_join 11 = .ok (.ifCond .ne 5, 3) := by decide +kernel
theorem dX6_join_14 : decode cX6_join 14 = .ok (.iconst 0, 1) := by decide +kernel
theorem dX6_join_15 : decode cX6_join 15 = .ok (.ireturn, 1) := by decide +kernel
theorem dX6_join_16 : decode cX6_join 16 = .ok (.aload_n 0, 1) := by decide +kernel
theorem dX6_join_17 : decode cX6_join 17 = .ok (.getfield 12, 3) := by decide +kernel
theorem dX6_join_20 : decode cX6_join 20 = .ok (.getfield 84, 3) := by decide +kernel
theorem dX6_join_23 : decode cX6_join 23 = .ok (.iload_n 1, 1) := by decide +kernel
theorem dX6_join_24 : decode cX6_join 24 = .ok (.iload_n 2, 1) := by decide +kernel
theorem dX6_join_25 : decode cX6_join 25 = .ok (.iastore, 1) := by decide +kernel
theorem dX6_join_26 : decode cX6_join 26 = .ok (.iconst 1, 1) := by decide +kernel
theorem dX6_join_27 : decode cX6_join 27 = .ok (.ireturn, 1) := by decide +kernel
set_option maxRecDepth 20000 in
theorem ggX6_foreground_X6_isPort : GoodIn wsX6_foreground wsX6_isPort := goodIn_r _ [5] (by decide +kernel) (by decide +kernel)
set_option maxRecDepth 20000 in
theorem gX6_foreground_X6_isPort : GoodIn wsX6_foreground (va_wsS RX6 25 yX6_isPort wsX6_isPort) := goodIn_app (goodIn_of _ (by decide +kernel)) ggX6_foreground_X6_isPort
set_option maxRecDepth 20000 in
theorem ggX6_foreground_X6_isGroup : GoodIn wsX6_foreground wsX6_isGroup := goodIn_r _ [8] (by decide +kernel) (by decide +kernel)
set_option maxRecDepth 20000 in
theorem gX6_foreground_X6_isGroup : GoodIn wsX6_foreground (va_wsS RX6 81 yX6_isGroup wsX6_isGroup) := goodIn_app (goodIn_of _ (by decide +kernel)) ggX6_foreground_X6_isGroup
theorem dX6_foreground_0 : decode cX6_foreground 0 = .ok (.iload_n 1, 1) := by decide +kernel
theorem dX6_foreground_1 : decode cX6_foreground 1 = .ok (.invokestatic 25, 3) := by decide +kernel
theorem dX6_foreground_4 : decode cX6_foreground 4 = .ok (.ifCond .eq 15, 3) := by decide +kernel
theorem dX6_foreground_7 : decode cX6_foreground 7 = .ok (.iload_n 2, 1) := by decide +kernel
theorem dX6_foreground_8 : decode cX6_foreground 8 = .ok (.invokestatic 81, 3) := by decide +kernel
theorem dX6_foreground_11 : decode cX6_foreground 11 = .ok (.ifCond .ne 10, 3) := by decide +kernel
theorem dX6_foreground_14 : decode cX6_foreground 14 = .ok (.iload_n 2, 1) := by decide +kernel
theorem dX6_foreground_15 : decode cX6_foreground 15 = .ok (.iconst (-1), 1) := by decide +kernel
theorem dX6_foreground_16 : decode cX6_foreground 16 = .ok (.if_icmp .eq 5, 3) := by decide +kernel
theorem dX6_foreground_19 : decode cX6_foreground 19 = .ok (.iconst 0, 1) := by decide +kernel
theorem dX6_foreground_20 : decode cX6_foreground 20 = .ok (.ireturn, 1) := by decide +kernel
theorem dX6_foreground_21 : decode cX6_foreground 21 = .ok (.aload_n 0, 1) := by decide +kernel
theorem dX6_foreground_22 : decode cX6_foreground 22 = .ok (.getfield 18, 3) := by decide +kernel
theorem dX6_foreground_25 : decode cX6_foreground 25 = .ok (.iload_n 1, 1) := by decide +kernel
theorem dX6_foreground_26 : decode cX6_foreground 26 = .ok (.aaload, 1) := by decide +kernel
theorem dX6_foreground_27 : decode cX6_foreground 27 = .ok (.iload_n 2, 1) := by decide +kernel
theorem dX6_foreground_28 : decode cX6_foreground 28 = .ok (.putfield 88, 3) := by decide +kernel
theorem dX6_foreground_31 : decode cX6_foreground 31 = .ok (.iconst 1, 1) := by decide +kernel
theorem dX6_foreground_32 : decode cX6_foreground 32 = .ok (.ireturn, 1) := by decide +kernel
set_option maxRecDepth 20000 in
theorem ggX6_write_X6_isProcess : GoodIn wsX6_write wsX6_isProcess := goodIn_r _ [6] (by decide +kernel) (by decide +kernel)
set_option maxRecDepth 20000 in
theorem gX6_write_X6_isProcess : GoodIn wsX6_write (va_wsS RX6 71 yX6_isProcess wsX6_isProcess) := goodIn_app (goodIn_of _ (by decide +kernel)) ggX6_write_X6_isProcess
set_option maxRecDepth 20000 in
theorem ggX6_write_X6_isPort : GoodIn wsX6_write wsX6_isPort := goodIn_r _ [9] (by decide +kernel) (by decide +kernel)
set_option maxRecDepth 20000 in
theorem gX6_write_X6_isPort : GoodIn wsX6_write (va_wsS RX6 25 yX6_isPort wsX6_isPort) := goodIn_app (goodIn_of _ (by decide +kernel)) ggX6_write_X6_isPort
set_option maxRecDepth 20000 in
theorem ggX6_write_X6_isByte : GoodIn wsX6_write wsX6_isByte := goodIn_r _ [12] (by decide +kernel) (by decide +kernel)
set_option maxRecDepth 20000 in
theorem gX6_write_X6_isByte : GoodIn wsX6_write (va_wsS RX6 29 yX6_isByte wsX6_isByte) := goodIn_app (goodIn_of _ (by decide +kernel)) ggX6_write_X6_isByte
set_option maxRecDepth 20000 in
theorem ggX6_write_X2_isOn : GoodIn wsX6_write wsX2_isOn := goodIn_r _ [17, 18, 90, 91, 92, 93, 94, 95, 96, 97, 98, 99, 100, 101, 102, 103, 104] (by decide +kernel) (by decide +kernel)
set_option maxRecDepth 20000 in
theorem gX6_write_X2_isOn : GoodIn wsX6_write (wsV RX6 95 RX2 yX2_isOn wsX2_isOn) := goodIn_app (goodIn_of _ (by decide +kernel)) ggX6_write_X2_isOn
set_option maxRecDepth 20000 in
theorem ggX6_write_X2_isBackground : GoodIn wsX6_write wsX2_isBackground := goodIn_r _ [22, 23, 24, 90, 91, 92, 93, 94, 95, 96, 97, 98, 99, 100, 101, 102, 103, 104, 105, 106] (by decide +kernel) (by decide +kernel)
set_option maxRecDepth 20000 in
theorem gX6_write_X2_isBackground : GoodIn wsX6_write (wsV RX6 98 RX2 yX2_isBackground wsX2_isBackground) := goodIn_app (goodIn_of _ (by decide +kernel)) ggX6_write_X2_isBackground
set_option maxRecDepth 20000 in
theorem ggX6_write_X0_raise : GoodIn wsX6_write wsX0_raise := goodIn_r _ [29, 30, 31, 105, 106] (by decide +kernel) (by decide +kernel)
set_option maxRecDepth 20000 in
theorem gX6_write_X0_raise : GoodIn wsX6_write (wsV RX6 101 RX0 yX0_raise wsX0_raise) := goodIn_app (goodIn_of _ (by decide +kernel)) ggX6_write_X0_raise
set_option maxRecDepth 20000 in
theorem ggX6_write_X2_expand : GoodIn wsX6_write wsX2_expand := goodIn_r _ [35, 36, 37, 38, 14, 15, 16, 17, 18, 39, 40, 41, 42, 43, 44, 45, 46, 47, 48, 49, 50, 51, 52, 53, 54, 55, 56, 57, 58, 59, 60, 90, 91, 92, 93, 94, 95, 96, 97, 98, 99, 100, 101, 102, 103, 104, 107, 108, 109, 110, 111, 112, 113, 114] (by decide +kernel) (by decide +kernel)
set_option maxRecDepth 20000 in
theorem gX6_write_X2_expand : GoodIn wsX6_write (wsV RX6 105 RX2 yX2_expand wsX2_expand) := goodIn_app (goodIn_of _ (by decide +kernel)) ggX6_write_X2_expand
set_option maxRecDepth 20000 in
theorem ggX6_write_X1_accept : GoodIn wsX6_write wsX1_accept := goodIn_r _ [64, 65, 60, 66, 67, 68, 46, 69, 53, 48, 70, 71, 72, 73, 54, 74, 50, 51, 52, 75, 76, 77, 58, 78, 110, 111, 112, 113, 114, 107, 108, 109] (by decide +kernel) (by decide +kernel)
set_option maxRecDepth 20000 in
theorem gX6_write_X1_accept : GoodIn wsX6_write (wsV RX6 113 RX1 yX1_accept wsX1_accept) := goodIn_app (goodIn_of _ (by decide +kernel)) ggX6_write_X1_accept
set_option maxRecDepth 20000 in
theorem ggX6_write_X1_push : GoodIn wsX6_write wsX1_push := goodIn_r _ [82, 83, 65, 66, 67, 68, 46, 69, 53, 48, 84, 85, 86, 87, 54, 74, 50, 51, 52, 110, 111, 112, 113, 114, 107, 108, 109] (by decide +kernel) (by decide +kernel)
set_option maxRecDepth 20000 in
theorem gX6_write_X1_push : GoodIn wsX6_write (wsV RX6 40 RX1 yX1_push wsX1_push) := goodIn_app (goodIn_of _ (by decide +kernel)) ggX6_write_X1_push
theorem dX6_write_0 : decode cX6_write 0 = .ok (.iload_n 1, 1) := by decide +kernel
theorem dX6_write_1 : decode cX6_write 1 = .ok (.invokestatic 71, 3) := by decide +kernel
theorem dX6_write_4 : decode cX6_write 4 = .ok (.ifCond .eq 17, 3) := by decide +kernel
theorem dX6_write_7 : decode cX6_write 7 = .ok (.iload_n 2, 1) := by decide +kernel
theorem dX6_write_8 : decode cX6_write 8 = .ok (.invokestatic 25, 3) := by decide +kernel
theorem dX6_write_11 : decode cX6_write 11 = .ok (.ifCond .eq 10, 3) := by decide +kernel
theorem dX6_write_14 : decode cX6_write 14 = .ok (.iload_n 3, 1) := by decide +kernel
theorem dX6_write_15 : decode cX6_write 15 = .ok (.invokestatic 29, 3) := by decide +kernel
theorem dX6_write_18 : decode cX6_write 18 = .ok (.ifCond .ne 5, 3) := by decide +kernel
theorem dX6_write_21 : decode cX6_write 21 = .ok (.iconst (-1), 1) := by decide +kernel
theorem dX6_write_22 : decode cX6_write 22 = .ok (.ireturn, 1) := by decide +kernel
theorem dX6_write_23 : decode cX6_write 23 = .ok (.aload_n 0, 1) := by decide +kernel
theorem dX6_write_24 : decode cX6_write 24 = .ok (.getfield 18, 3) := by decide +kernel
theorem dX6_write_27 : decode cX6_write 27 = .ok (.iload_n 2, 1) := by decide +kernel
theorem dX6_write_28 : decode cX6_write 28 = .ok (.aaload, 1) := by decide +kernel
theorem dX6_write_29 : decode cX6_write 29 = .ok (.astore 4, 2) := by decide +kernel
theorem dX6_write_31 : decode cX6_write 31 = .ok (.aload 4, 2) := by decide +kernel
theorem dX6_write_33 : decode cX6_write 33 = .ok (.getfield 77, 3) := by decide +kernel
theorem dX6_write_36 : decode cX6_write 36 = .ok (.iload_n 1, 1) := by decide +kernel
theorem dX6_write_37 : decode cX6_write 37 = .ok (.baload, 1) := by decide +kernel
theorem dX6_write_38 : decode cX6_write 38 = .ok (.ifCond .eq 11, 3) := by decide +kernel
theorem dX6_write_41 : decode cX6_write 41 = .ok (.aload 4, 2) := by decide +kernel
theorem dX6_write_43 : decode cX6_write 43 = .ok (.getfield 92, 3) := by decide +kernel
theorem dX6_write_46 : decode cX6_write 46 = .ok (.ifCond .eq 6, 3) := by decide +kernel
theorem dX6_write_49 : decode cX6_write 49 = .ok (.bipush (-4), 2) := by decide +kernel
theorem dX6_write_51 : decode cX6_write 51 = .ok (.ireturn, 1) := by decide +kernel
theorem dX6_write_52 : decode cX6_write 52 = .ok (.aload 4, 2) := by decide +kernel
theorem dX6_write_54 : decode cX6_write 54 = .ok (.bipush 10, 2) := by decide +kernel
theorem dX6_write_56 : decode cX6_write 56 = .ok (.invokevirtual 95, 3) := by decide +kernel
theorem dX6_write_59 : decode cX6_write 59 = .ok (.ifCond .eq 33, 3) := by decide +kernel
theorem dX6_write_62 : decode cX6_write 62 = .ok (.aload 4, 2) := by decide +kernel
theorem dX6_write_64 : decode cX6_write 64 = .ok (.iload_n 1, 1) := by decide +kernel
theorem dX6_write_65 : decode cX6_write 65 = .ok (.invokevirtual 98, 3) := by decide +kernel
theorem dX6_write_68 : decode cX6_write 68 = .ok (.ifCond .eq 24, 3) := by decide +kernel
theorem dX6_write_71 : decode cX6_write 71 = .ok (.aload_n 0, 1) := by decide +kernel
theorem dX6_write_72 : decode cX6_write 72 = .ok (.getfield 12, 3) := by decide +kernel
theorem dX6_write_75 : decode cX6_write 75 = .ok (.aload_n 0, 1) := by decide +kernel
theorem dX6_write_76 : decode cX6_write 76 = .ok (.getfield 12, 3) := by decide +kernel
theorem dX6_write_79 : decode cX6_write 79 = .ok (.getfield 84, 3) := by decide +kernel
theorem dX6_write_82 : decode cX6_write 82 = .ok (.iload_n 1, 1) := by decide +kernel
theorem dX6_write_83 : decode cX6_write 83 = .ok (.iaload, 1) := by decide +kernel
theorem dX6_write_84 : decode cX6_write 84 = .ok (.bipush 32, 2) := by decide +kernel
theorem dX6_write_86 : decode cX6_write 86 = .ok (.invokevirtual 101, 3) := by decide +kernel
theorem dX6_write_89 : decode cX6_write 89 = .ok (.bipush (-5), 2) := by decide +kernel
theorem dX6_write_91 : decode cX6_write 91 = .ok (.ireturn, 1) := by decide +kernel
theorem dX6_write_92 : decode cX6_write 92 = .ok (.aload 4, 2) := by decide +kernel
theorem dX6_write_94 : decode cX6_write 94 = .ok (.iload_n 3, 1) := by decide +kernel
theorem dX6_write_95 : decode cX6_write 95 = .ok (.invokevirtual 105, 3) := by decide +kernel
theorem dX6_write_98 : decode cX6_write 98 = .ok (.aload 4, 2) := by decide +kernel
theorem dX6_write_100 : decode cX6_write 100 = .ok (.getfield 36, 3) := by decide +kernel
theorem dX6_write_103 : decode cX6_write 103 = .ok (.aload 4, 2) := by decide +kernel
theorem dX6_write_105 : decode cX6_write 105 = .ok (.getfield 109, 3) := by decide +kernel
theorem dX6_write_108 : decode cX6_write 108 = .ok (.invokevirtual 113, 3) := by decide +kernel
theorem dX6_write_111 : decode cX6_write 111 = .ok (.ifCond .ne 6, 3) := by decide +kernel
theorem dX6_write_114 : decode cX6_write 114 = .ok (.bipush (-2), 2) := by decide +kernel
theorem dX6_write_116 : decode cX6_write 116 = .ok (.ireturn, 1) := by decide +kernel
theorem dX6_write_117 : decode cX6_write 117 = .ok (.aload 4, 2) := by decide +kernel
theorem dX6_write_119 : decode cX6_write 119 = .ok (.getfield 36, 3) := by decide +kernel
theorem dX6_write_122 : decode cX6_write 122 = .ok (.invokevirtual 40, 3) := by decide +kernel
theorem dX6_write_125 : decode cX6_write 125 = .ok (.iconst 1, 1) := by decide +kernel
theorem dX6_write_126 : decode cX6_write 126 = .ok (.ireturn, 1) := by decide +kernel
set_option maxRecDepth 20000 in
theorem ggX6_read_X6_isProcess : GoodIn wsX6_read wsX6_isProcess := goodIn_r _ [6] (by decide +kernel) (by decide +kernel)
set_option maxRecDepth 20000 in
theorem gX6_read_X6_isProcess : GoodIn wsX6_read (va_wsS RX6 71 yX6_isProcess wsX6_isProcess) := goodIn_app (goodIn_of _ (by decide +kernel)) ggX6_read_X6_isProcess
set_option maxRecDepth 20000 in
theorem ggX6_read_X6_isPort : GoodIn wsX6_read wsX6_isPort := goodIn_r _ [9] (by decide +kernel) (by decide +kernel)
set_option maxRecDepth 20000 in
theorem gX6_read_X6_isPort : GoodIn wsX6_read (va_wsS RX6 25 yX6_isPort wsX6_isPort) := goodIn_app (goodIn_of _ (by decide +kernel)) ggX6_read_X6_isPort
set_option maxRecDepth 20000 in
theorem ggX6_read_X2_pass : GoodIn wsX6_read wsX2_pass := goodIn_r _ [14, 15, 16, 17, 18, 19, 20, 21, 22, 23, 24, 25, 26, 27, 13, 28, 29, 30, 31, 32, 33, 34, 35, 36, 37, 38, 39, 40, 41, 42, 43, 44, 45, 46, 47, 48, 49, 50, 51, 52, 53, 54, 55, 56, 57, 58, 59, 60, 61, 62, 63, 64, 65, 66, 67, 68, 69, 70, 71, 72, 73, 74, 75, 76, 77, 78, 79, 80, 81, 82, 83, 84, 85, 86, 87, 88, 89, 90, 91, 92, 93, 94, 95, 96, 97, 98, 99, 100, 101, 102, 103, 104, 105, 106, 107, 108, 109, 110, 111, 112, 113, 114, 115, 116, 117, 118, 119, 120, 121, 122, 123, 124, 125, 126, 127, 128, 129, 130, 131, 132, 133, 134, 135, 136, 137, 138, 139, 140, 141, 142, 143, 144, 145, 146, 147, 148, 149, 150, 151, 152, 153, 154, 155, 156, 157, 158, 159, 160, 161, 162, 163, 164, 165, 166, 167, 168, 169, 170, 171, 172, 173, 174, 175, 176, 177, 178, 179, 180, 181, 182, 183, 184, 185, 186, 187, 188, 189, 190, 191, 192, 193, 194, 195, 196, 197, 214, 215, 216, 217, 218, 219, 220, 221, 222, 223, 224, 225, 226, 227, 228, 234, 235, 236, 237, 238, 239, 240, 241, 229, 230, 231, 232, 233, 242, 243, 244, 245, 246] (by decide +kernel) (by decide +kernel)
set_option maxRecDepth 20000 in
theorem gX6_read_X2_pass : GoodIn wsX6_read (wsV RX6 117 RX2 yX2_pass wsX2_pass) := goodIn_app (goodIn_of _ (by decide +kernel)) ggX6_read_X2_pass
set_option maxRecDepth 20000 in
theorem ggX6_read_X2_isBackground : GoodIn wsX6_read wsX2_isBackground := goodIn_r _ [201, 40, 39, 214, 215, 216, 217, 218, 219, 220, 221, 222, 223, 224, 225, 226, 227, 228, 229, 230] (by decide +kernel) (by decide +kernel)
set_option maxRecDepth 20000 in
theorem gX6_read_X2_isBackground : GoodIn wsX6_read (wsV RX6 98 RX2 yX2_isBackground wsX2_isBackground) := goodIn_app (goodIn_of _ (by decide +kernel)) ggX6_read_X2_isBackground
set_option maxRecDepth 20000 in
theorem ggX6_read_X0_raise : GoodIn wsX6_read wsX0_raise := goodIn_r _ [47, 48, 49, 229, 230] (by decide +kernel) (by decide +kernel)
set_option maxRecDepth 20000 in
theorem gX6_read_X0_raise : GoodIn wsX6_read (wsV RX6 101 RX0 yX0_raise wsX0_raise) := goodIn_app (goodIn_of _ (by decide +kernel)) ggX6_read_X0_raise
set_option maxRecDepth 20000 in
theorem ggX6_read_X2_takeEntry : GoodIn wsX6_read wsX2_takeEntry := goodIn_r _ [206, 54, 207, 208, 209, 58, 210, 61, 60, 211, 18, 19, 20, 21, 22, 23, 24, 66, 67, 68, 13, 69, 70, 71, 214, 215, 216, 217, 218, 219, 220, 221, 222, 223, 224, 225, 226, 227, 228, 231, 232, 233, 234, 235, 236] (by decide +kernel) (by decide +kernel)
set_option maxRecDepth 20000 in
theorem gX6_read_X2_takeEntry : GoodIn wsX6_read (wsV RX6 129 RX2 yX2_takeEntry wsX2_takeEntry) := goodIn_app (goodIn_of _ (by decide +kernel)) ggX6_read_X2_takeEntry
theorem dX6_read_0 : decode cX6_read 0 = .ok (.iload_n 1, 1) := by decide +kernel
theorem dX6_read_1 : decode cX6_read 1 = .ok (.invokestatic 71, 3) := by decide +kernel
theorem dX6_read_4 : decode cX6_read 4 = .ok (.ifCond .eq 10, 3) := by decide +kernel
theorem dX6_read_7 : decode cX6_read 7 = .ok (.iload_n 2, 1) := by decide +kernel
theorem dX6_read_8 : decode cX6_read 8 = .ok (.invokestatic 25, 3) := by decide +kernel
theorem dX6_read_11 : decode cX6_read 11 = .ok (.ifCond .ne 5, 3) := by decide +kernel
theorem dX6_read_14 : decode cX6_read 14 = .ok (.iconst (-1), 1) := by decide +kernel
theorem dX6_read_15 : decode cX6_read 15 = .ok (.ireturn, 1) := by decide +kernel
theorem dX6_read_16 : decode cX6_read 16 = .ok (.aload_n 0, 1) := by decide +kernel
theorem dX6_read_17 : decode cX6_read 17 = .ok (.getfield 18, 3) := by decide +kernel
theorem dX6_read_20 : decode cX6_read 20 = .ok (.iload_n 2, 1) := by decide +kernel
theorem dX6_read_21 : decode cX6_read 21 = .ok (.aaload, 1) := by decide +kernel
theorem dX6_read_22 : decode cX6_read 22 = .ok (.astore_n 3, 1) := by decide +kernel
theorem dX6_read_23 : decode cX6_read 23 = .ok (.aload_n 3, 1) := by decide +kernel
theorem dX6_read_24 : decode cX6_read 24 = .ok (.invokevirtual 117, 3) := by decide +kernel
theorem dX6_read_27 : decode cX6_read 27 = .ok (.aload_n 3, 1) := by decide +kernel
theorem dX6_read_28 : decode cX6_read 28 = .ok (.getfield 77, 3) := by decide +kernel
theorem dX6_read_31 : decode cX6_read 31 = .ok (.iload_n 1, 1) := by decide +kernel
theorem dX6_read_32 : decode cX6_read 32 = .ok (.baload, 1) := by decide +kernel
theorem dX6_read_33 : decode cX6_read 33 = .ok (.ifCond .ne 6, 3) := by decide +kernel
theorem dX6_read_36 : decode cX6_read 36 = .ok (.bipush (-4), 2) := by decide +kernel
theorem dX6_read_38 : decode cX6_read 38 = .ok (.ireturn, 1) := by decide +kernel
theorem dX6_read_39 : decode cX6_read 39 = .ok (.aload_n 3, 1) := by decide +kernel
theorem dX6_read_40 : decode cX6_read 40 = .ok (.iload_n 1, 1) := by decide +kernel
theorem dX6_read_41 : decode cX6_read 41 = .ok (.invokevirtual 98, 3) := by decide +kernel
theorem dX6_read_44 : decode cX6_read 44 = .ok (.ifCond .eq 24, 3) := by decide +kernel
theorem dX6_read_47 : decode cX6_read 47 = .ok (.aload_n 0, 1) := by decide +kernel
theorem dX6_read_48 : decode cX6_read 48 = .ok (.getfield 12, 3) := by decide +kernel
theorem dX6_read_51 : decode cX6_read 51 = .ok (.aload_n 0, 1) := by decide +kernel
theorem dX6_read_52 : decode cX6_read 52 = .ok (.getfield 12, 3) := by decide +kernel
theorem dX6_read_55 : decode cX6_read 55 = .ok (.getfield 84, 3) := by decide +kernel
theorem dX6_read_58 : decode cX6_read 58 = .ok (.iload_n 1, 1) := by decide +kernel
theorem dX6_read_59 : decode cX6_read 59 = .ok (.iaload, 1) := by decide +kernel
theorem dX6_read_60 : decode cX6_read 60 = .ok (.bipush 16, 2) := by decide +kernel
theorem dX6_read_62 : decode cX6_read 62 = .ok (.invokevirtual 101, 3) := by decide +kernel
theorem dX6_read_65 : decode cX6_read 65 = .ok (.bipush (-5), 2) := by decide +kernel
theorem dX6_read_67 : decode cX6_read 67 = .ok (.ireturn, 1) := by decide +kernel
theorem dX6_read_68 : decode cX6_read 68 = .ok (.aload_n 3, 1) := by decide +kernel
theorem dX6_read_69 : decode cX6_read 69 = .ok (.getfield 120, 3) := by decide +kernel
theorem dX6_read_72 : decode cX6_read 72 = .ok (.getfield 124, 3) := by decide +kernel
theorem dX6_read_75 : decode cX6_read 75 = .ok (.ifCond .le 8, 3) := by decide +kernel
theorem dX6_read_78 : decode cX6_read 78 = .ok (.aload_n 3, 1) := by decide +kernel
theorem dX6_read_79 : decode cX6_read 79 = .ok (.invokevirtual 129, 3) := by decide +kernel
theorem dX6_read_82 : decode cX6_read 82 = .ok (.ireturn, 1) := by decide +kernel
theorem dX6_read_83 : decode cX6_read 83 = .ok (.aload_n 3, 1) := by decide +kernel
theorem dX6_read_84 : decode cX6_read 84 = .ok (.getfield 92, 3) := by decide +kernel
theorem dX6_read_87 : decode cX6_read 87 = .ok (.ifCond .eq 8, 3) := by decide +kernel
theorem dX6_read_90 : decode cX6_read 90 = .ok (.bipush (-3), 2) := by decide +kernel
theorem dX6_read_92 : decode cX6_read 92 = .ok (.goto 5, 3) := by decide +kernel
theorem dX6_read_95 : decode cX6_read 95 = .ok (.bipush (-2), 2) := by decide +kernel
theorem dX6_read_97 : decode cX6_read 97 = .ok (.ireturn, 1) := by decide +kernel
set_option maxRecDepth 20000 in
theorem ggX6_mode_X6_isPort : GoodIn wsX6_mode wsX6_isPort := goodIn_r _ [5] (by decide +kernel) (by decide +kernel)
set_option maxRecDepth 20000 in
theorem gX6_mode_X6_isPort : GoodIn wsX6_mode (va_wsS RX6 25 yX6_isPort wsX6_isPort) := goodIn_app (goodIn_of _ (by decide +kernel)) ggX6_mode_X6_isPort
set_option maxRecDepth 20000 in
theorem ggX6_mode_X6_isMode : GoodIn wsX6_mode wsX6_isMode := goodIn_r _ [8] (by decide +kernel) (by decide +kernel)
set_option maxRecDepth 20000 in
theorem gX6_mode_X6_isMode : GoodIn wsX6_mode (va_wsS RX6 132 yX6_isMode wsX6_isMode) := goodIn_app (goodIn_of _ (by decide +kernel)) ggX6_mode_X6_isMode
set_option maxRecDepth 20000 in
theorem ggX6_mode_X6_mostOf : GoodIn wsX6_mode wsX6_mostOf := goodIn_r _ [11] (by decide +kernel) (by decide +kernel)
set_option maxRecDepth 20000 in
theorem gX6_mode_X6_mostOf : GoodIn wsX6_mode (va_wsS RX6 135 yX6_mostOf wsX6_mostOf) := goodIn_app (goodIn_of _ (by decide +kernel)) ggX6_mode_X6_mostOf
set_option maxRecDepth 20000 in
theorem ggX6_mode_X2_setMode : GoodIn wsX6_mode wsX2_setMode := goodIn_r _ [16, 17, 18, 19, 20, 21, 22, 23, 24, 25, 26, 27, 28, 29, 30, 31, 32, 33, 34, 35, 36, 37, 38, 39, 40, 41, 42, 43, 44, 15, 45, 46, 47, 48, 49, 50, 51, 52, 53, 54, 55, 56, 57, 58, 59, 111, 112, 113, 114, 115, 116, 117, 118, 119, 120, 121, 122, 123, 124, 125, 126, 127, 128, 129, 130, 131] (by decide +kernel) (by decide +kernel)
set_option maxRecDepth 20000 in
theorem gX6_mode_X2_setMode : GoodIn wsX6_mode (wsV RX6 139 RX2 yX2_setMode wsX2_setMode) := goodIn_app (goodIn_of _ (by decide +kernel)) ggX6_mode_X2_setMode
set_option maxRecDepth 20000 in
theorem ggX6_mode_X2_changeLater : GoodIn wsX6_mode wsX2_changeLater := goodIn_r _ [63, 64, 65, 66, 67, 68, 69, 70, 71, 72, 73, 74, 75, 76, 77, 78, 79, 80, 81, 82, 83, 84, 85, 15, 86, 87, 88, 89, 90, 91, 92, 93, 94, 18, 95, 96, 97, 22, 98, 24, 41, 99, 100, 101, 28, 102, 30, 42, 43, 44, 45, 46, 47, 103, 13, 14, 16, 17, 19, 20, 21, 23, 25, 26, 27, 29, 31, 32, 33, 34, 35, 36, 37, 38, 39, 40, 48, 49, 50, 51, 52, 53, 54, 55, 56, 57, 58, 59, 104, 105, 106, 107, 108, 111, 112, 113, 114, 115, 116, 117, 118, 119, 120, 121, 122, 123, 124, 125, 132, 133, 134, 135, 136, 129, 130, 131, 137, 138, 139, 140, 141, 126, 127, 128] (by decide +kernel) (by decide +kernel)
set_option maxRecDepth 20000 in
theorem gX6_mode_X2_changeLater : GoodIn wsX6_mode (wsV RX6 142 RX2 yX2_changeLater wsX2_changeLater) := goodIn_app (goodIn_of _ (by decide +kernel)) ggX6_mode_X2_changeLater
theorem dX6_mode_0 : decode cX6_mode 0 = .ok (.iload_n 1, 1) := by decide +kernel
theorem dX6_mode_1 : decode cX6_mode 1 = .ok (.invokestatic 25, 3) := by decide +kernel
theorem dX6_mode_4 : decode cX6_mode 4 = .ok (.ifCond .eq 33, 3) := by decide +kernel
theorem dX6_mode_7 : decode cX6_mode 7 = .ok (.iload_n 2, 1) := by decide +kernel
theorem dX6_mode_8 : decode cX6_mode 8 = .ok (.invokestatic 132, 3) := by decide +kernel
theorem dX6_mode_11 : decode cX6_mode 11 = .ok (.ifCond .eq 26, 3) := by decide +kernel
theorem dX6_mode_14 : decode cX6_mode 14 = .ok (.iload_n 3, 1) := by decide +kernel
theorem dX6_mode_15 : decode cX6_mode 15 = .ok (.ifCond .lt 22, 3) := by decide +kernel
theorem dX6_mode_18 : decode cX6_mode 18 = .ok (.iload_n 3, 1) := by decide +kernel
theorem dX6_mode_19 : decode cX6_mode 19 = .ok (.iload_n 2, 1) := by decide +kernel
theorem dX6_mode_20 : decode cX6_mode 20 = .ok (.invokestatic 135, 3) := by decide +kernel
theorem dX6_mode_23 : decode cX6_mode 23 = .ok (.if_icmp .gt 14, 3) := by decide +kernel
theorem dX6_mode_26 : decode cX6_mode 26 = .ok (.iload 4, 2) := by decide +kernel
theorem dX6_mode_28 : decode cX6_mode 28 = .ok (.ifCond .lt 9, 3) := by decide +kernel
theorem dX6_mode_31 : decode cX6_mode 31 = .ok (.iload 4, 2) := by decide +kernel
theorem dX6_mode_33 : decode cX6_mode 33 = .ok (.iconst 2, 1) := by decide +kernel
theorem dX6_mode_34 : decode cX6_mode 34 = .ok (.if_icmp .le 5, 3) := by decide +kernel
theorem dX6_mode_37 : decode cX6_mode 37 = .ok (.iconst 0, 1) := by decide +kernel
theorem dX6_mode_38 : decode cX6_mode 38 = .ok (.ireturn, 1) := by decide +kernel
theorem dX6_mode_39 : decode cX6_mode 39 = .ok (.iload 4, 2) := by decide +kernel
theorem dX6_mode_41 : decode cX6_mode 41 = .ok (.ifCond .ne 16, 3) := by decide +kernel
theorem dX6_mode_44 : decode cX6_mode 44 = .ok (.aload_n 0, 1) := by decide +kernel
theorem dX6_mode_45 : decode cX6_mode 45 = .ok (.getfield 18, 3) := by decide +kernel
theorem dX6_mode_48 : decode cX6_mode 48 = .ok (.iload_n 1, 1) := by decide +kernel
theorem dX6_mode_49 : decode cX6_mode 49 = .ok (.aaload, 1) := by decide +kernel
theorem dX6_mode_50 : decode cX6_mode 50 = .ok (.iload_n 2, 1) := by decide +kernel
theorem dX6_mode_51 : decode cX6_mode 51 = .ok (.iload_n 3, 1) := by decide +kernel
theorem dX6_mode_52 : decode cX6_mode 52 = .ok (.invokevirtual 139, 3) := by decide +kernel
theorem dX6_mode_55 : decode cX6_mode 55 = .ok (.iconst 1, 1) := by decide +kernel
theorem dX6_mode_56 : decode cX6_mode 56 = .ok (.ireturn, 1) := by decide +kernel
theorem dX6_mode_57 : decode cX6_mode 57 = .ok (.aload_n 0, 1) := by decide +kernel
theorem dX6_mode_58 : decode cX6_mode 58 = .ok (.getfield 18, 3) := by decide +kernel
theorem dX6_mode_61 : decode cX6_mode 61 = .ok (.iload_n 1, 1) := by decide +kernel
theorem dX6_mode_62 : decode cX6_mode 62 = .ok (.aaload, 1) := by decide +kernel
theorem dX6_mode_63 : decode cX6_mode 63 = .ok (.iload_n 2, 1) := by decide +kernel
theorem dX6_mode_64 : decode cX6_mode 64 = .ok (.iload_n 3, 1) := by decide +kernel
theorem dX6_mode_65 : decode cX6_mode 65 = .ok (.iload 4, 2) := by decide +kernel
theorem dX6_mode_67 : decode cX6_mode 67 = .ok (.iconst 2, 1) := by decide +kernel
theorem dX6_mode_68 : decode cX6_mode 68 = .ok (.if_icmp .ne 7, 3) := by decide +kernel
theorem dX6_mode_71 : decode cX6_mode 71 = .ok (.iconst 1, 1) := by decide +kernel
theorem dX6_mode_72 : decode cX6_mode 72 = .ok (.goto 4, 3) := by decide +kernel
theorem dX6_mode_75 : decode cX6_mode 75 = .ok (.iconst 0, 1) := by decide +kernel
theorem dX6_mode_76 : decode cX6_mode 76 = .ok (.invokevirtual 142, 3) := by decide +kernel
theorem dX6_mode_79 : decode cX6_mode 79 = .ok (.ireturn, 1) := by decide +kernel
set_option maxRecDepth 20000 in
theorem ggX6_modeOf_X6_isPort : GoodIn wsX6_modeOf wsX6_isPort := goodIn_r _ [5] (by decide +kernel) (by decide +kernel)
set_option maxRecDepth 20000 in
theorem gX6_modeOf_X6_isPort : GoodIn wsX6_modeOf (va_wsS RX6 25 yX6_isPort wsX6_isPort) := goodIn_app (goodIn_of _ (by decide +kernel)) ggX6_modeOf_X6_isPort
set_option maxRecDepth 20000 in
theorem ggX6_modeOf_X6_isMode : GoodIn wsX6_modeOf wsX6_isMode := goodIn_r _ [8] (by decide +kernel) (by decide +kernel)
set_option maxRecDepth 20000 in
theorem gX6_modeOf_X6_isMode : GoodIn wsX6_modeOf (va_wsS RX6 132 yX6_isMode wsX6_isMode) := goodIn_app (goodIn_of _ (by decide +kernel)) ggX6_modeOf_X6_isMode
theorem dX6_modeOf_0 : decode cX6_modeOf 0 = .ok (.iload_n 1, 1) := by decide +kernel
theorem dX6_modeOf_1 : decode cX6_modeOf 1 = .ok (.invokestatic 25, 3) := by decide +kernel
theorem dX6_modeOf_4 : decode cX6_modeOf 4 = .ok (.ifCond .eq 24, 3) := by decide +kernel
theorem dX6_modeOf_7 : decode cX6_modeOf 7 = .ok (.iload_n 2, 1) := by decide +kernel
theorem dX6_modeOf_8 : decode cX6_modeOf 8 = .ok (.invokestatic 132, 3) := by decide +kernel
theorem dX6_modeOf_11 : decode cX6_modeOf 11 = .ok (.ifCond .eq 17, 3) := by decide +kernel
theorem dX6_modeOf_14 : decode cX6_modeOf 14 = .ok (.aload_n 0, 1) := by decide +kernel
theorem dX6_modeOf_15 : decode cX6_modeOf 15 = .ok (.getfield 18, 3) := by decide +kernel
theorem dX6_modeOf_18 : decode cX6_modeOf 18 = .ok (.iload_n 1, 1) := by decide +kernel
theorem dX6_modeOf_19 : decode cX6_modeOf 19 = .ok (.aaload, 1) := by decide +kernel
theorem dX6_modeOf_20 : decode cX6_modeOf 20 = .ok (.getfield 146, 3) := by decide +kernel
theorem dX6_modeOf_23 : decode cX6_modeOf 23 = .ok (.iload_n 2, 1) := by decide +kernel
theorem dX6_modeOf_24 : decode cX6_modeOf 24 = .ok (.iaload, 1) := by decide +kernel
theorem dX6_modeOf_25 : decode cX6_modeOf 25 = .ok (.goto 4, 3) := by decide +kernel
theorem dX6_modeOf_28 : decode cX6_modeOf 28 = .ok (.iconst (-1), 1) := by decide +kernel
theorem dX6_modeOf_29 : decode cX6_modeOf 29 = .ok (.ireturn, 1) := by decide +kernel
set_option maxRecDepth 20000 in
theorem ggX6_poll_X6_isProcess : GoodIn wsX6_poll wsX6_isProcess := goodIn_r _ [5] (by decide +kernel) (by decide +kernel)
set_option maxRecDepth 20000 in
theorem gX6_poll_X6_isProcess : GoodIn wsX6_poll (va_wsS RX6 71 yX6_isProcess wsX6_isProcess) := goodIn_app (goodIn_of _ (by decide +kernel)) ggX6_poll_X6_isProcess
set_option maxRecDepth 20000 in
theorem ggX6_poll_X6_isPort : GoodIn wsX6_poll wsX6_isPort := goodIn_r _ [8] (by decide +kernel) (by decide +kernel)
set_option maxRecDepth 20000 in
theorem gX6_poll_X6_isPort : GoodIn wsX6_poll (va_wsS RX6 25 yX6_isPort wsX6_isPort) := goodIn_app (goodIn_of _ (by decide +kernel)) ggX6_poll_X6_isPort
set_option maxRecDepth 20000 in
theorem ggX6_poll_X2_pass : GoodIn wsX6_poll wsX2_pass := goodIn_r _ [13, 14, 15, 16, 17, 18, 19, 20, 21, 22, 23, 24, 25, 26, 12, 27, 28, 29, 30, 31, 32, 33, 34, 35, 36, 37, 38, 39, 40, 41, 42, 43, 44, 45, 46, 47, 48, 49, 50, 51, 52, 53, 54, 55, 56, 57, 58, 59, 60, 61, 62, 63, 64, 65, 66, 67, 68, 69, 70, 71, 72, 73, 74, 75, 76, 77, 78, 79, 80, 81, 82, 83, 84, 85, 86, 87, 88, 89, 90, 91, 92, 93, 94, 95, 96, 97, 98, 99, 100, 101, 102, 103, 104, 105, 106, 107, 108, 109, 110, 111, 112, 113, 114, 115, 116, 117, 118, 119, 120, 121, 122, 123, 124, 125, 126, 127, 128, 129, 130, 131, 132, 133, 134, 135, 136, 137, 138, 139, 140, 141, 142, 143, 144, 145, 146, 147, 148, 149, 150, 151, 152, 153, 154, 155, 156, 157, 158, 159, 160, 161, 162, 163, 164, 165, 166, 167, 168, 169, 170, 171, 172, 173, 174, 175, 176, 177, 178, 179, 180, 181, 182, 183, 184, 185, 186, 187, 188, 189, 190, 191, 192, 193, 194, 195, 196, 210, 211, 212, 213, 214, 215, 216, 217, 218, 219, 220, 221, 222, 223, 224, 230, 231, 232, 225, 226, 227, 228, 229, 233, 234, 235, 236, 237, 238, 239, 240, 241, 242] (by decide +kernel) (by decide +kernel)
set_option maxRecDepth 20000 in
theorem gX6_poll_X2_pass : GoodIn wsX6_poll (wsV RX6 117 RX2 yX2_pass wsX2_pass) := goodIn_app (goodIn_of _ (by decide +kernel)) ggX6_poll_X2_pass
set_option maxRecDepth 20000 in
theorem ggX6_poll_X2_readingWaits : GoodIn wsX6_poll wsX2_readingWaits := goodIn_r _ [200, 201, 53, 202, 203, 204, 205, 12, 206, 39, 38, 210, 211, 212, 213, 214, 215, 216, 217, 218, 219, 220, 221, 222, 223, 224, 235, 236, 237, 233, 234] (by decide +kernel) (by decide +kernel)
set_option maxRecDepth 20000 in
theorem gX6_poll_X2_readingWaits : GoodIn wsX6_poll (wsV RX6 149 RX2 yX2_readingWaits wsX2_readingWaits) := goodIn_app (goodIn_of _ (by decide +kernel)) ggX6_poll_X2_readingWaits
set_option maxRecDepth 20000 in
theorem ggX6_poll_X3_fits : GoodIn wsX6_poll wsX3_fits := goodIn_r _ [113, 22, 21, 230, 231, 232] (by decide +kernel) (by decide +kernel)
set_option maxRecDepth 20000 in
theorem gX6_poll_X3_fits : GoodIn wsX6_poll (wsV RX6 155 RX3 yX3_fits wsX3_fits) := goodIn_app (goodIn_of _ (by decide +kernel)) ggX6_poll_X3_fits
theorem dX6_poll_0 : decode cX6_poll 0 = .ok (.iload_n 1, 1) := by decide +kernel
theorem dX6_poll_1 : decode cX6_poll 1 = .ok (.invokestatic 71, 3) := by decide +kernel
theorem dX6_poll_4 : decode cX6_poll 4 = .ok (.ifCond .eq 10, 3) := by decide +kernel
theorem dX6_poll_7 : decode cX6_poll 7 = .ok (.iload_n 2, 1) := by decide +kernel
theorem dX6_poll_8 : decode cX6_poll 8 = .ok (.invokestatic 25, 3) := by decide +kernel
theorem dX6_poll_11 : decode cX6_poll 11 = .ok (.ifCond .ne 5, 3) := by decide +kernel
theorem dX6_poll_14 : decode cX6_poll 14 = .ok (.iconst (-1), 1) := by decide +kernel
theorem dX6_poll_15 : decode cX6_poll 15 = .ok (.ireturn, 1) := by decide +kernel
theorem dX6_poll_16 : decode cX6_poll 16 = .ok (.aload_n 0, 1) := by decide +kernel
theorem dX6_poll_17 : decode cX6_poll 17 = .ok (.getfield 18, 3) := by decide +kernel
theorem dX6_poll_20 : decode cX6_poll 20 = .ok (.iload_n 2, 1) := by decide +kernel
theorem dX6_poll_21 : decode cX6_poll 21 = .ok (.aaload, 1) := by decide +kernel
theorem dX6_poll_22 : decode cX6_poll 22 = .ok (.astore_n 3, 1) := by decide +kernel
theorem dX6_poll_23 : decode cX6_poll 23 = .ok (.aload_n 3, 1) := by decide +kernel
theorem dX6_poll_24 : decode cX6_poll 24 = .ok (.invokevirtual 117, 3) := by decide +kernel
theorem dX6_poll_27 : decode cX6_poll 27 = .ok (.aload_n 3, 1) := by decide +kernel
theorem dX6_poll_28 : decode cX6_poll 28 = .ok (.iload_n 1, 1) := by decide +kernel
theorem dX6_poll_29 : decode cX6_poll 29 = .ok (.invokevirtual 149, 3) := by decide +kernel
theorem dX6_poll_32 : decode cX6_poll 32 = .ok (.ifCond .eq 7, 3) := by decide +kernel
theorem dX6_poll_35 : decode cX6_poll 35 = .ok (.iconst 0, 1) := by decide +kernel
theorem dX6_poll_36 : decode cX6_poll 36 = .ok (.goto 4, 3) := by decide +kernel
theorem dX6_poll_39 : decode cX6_poll 39 = .ok (.iconst 1, 1) := by decide +kernel
theorem dX6_poll_40 : decode cX6_poll 40 = .ok (.istore 4, 2) := by decide +kernel
theorem dX6_poll_42 : decode cX6_poll 42 = .ok (.iload 4, 2) := by decide +kernel
theorem dX6_poll_44 : decode cX6_poll 44 = .ok (.aload_n 3, 1) := by decide +kernel
theorem dX6_poll_45 : decode cX6_poll 45 = .ok (.getfield 36, 3) := by decide +kernel
theorem dX6_poll_48 : decode cX6_poll 48 = .ok (.getfield 152, 3) := by decide +kernel
theorem dX6_poll_51 : decode cX6_poll 51 = .ok (.bipush 8, 2) := by decide +kernel
theorem dX6_poll_53 : decode cX6_poll 53 = .ok (.invokevirtual 155, 3) := by decide +kernel
theorem dX6_poll_56 : decode cX6_poll 56 = .ok (.ifCond .eq 7, 3) := by decide +kernel
theorem dX6_poll_59 : decode cX6_poll 59 = .ok (.iconst 2, 1) := by decide +kernel
theorem dX6_poll_60 : decode cX6_poll 60 = .ok (.goto 4, 3) := by decide +kernel
theorem dX6_poll_63 : decode cX6_poll 63 = .ok (.iconst 0, 1) := by decide +kernel
theorem dX6_poll_64 : decode cX6_poll 64 = .ok (.iadd, 1) := by decide +kernel
theorem dX6_poll_65 : decode cX6_poll 65 = .ok (.istore 4, 2) := by decide +kernel
theorem dX6_poll_67 : decode cX6_poll 67 = .ok (.iload 4, 2) := by decide +kernel
theorem dX6_poll_69 : decode cX6_poll 69 = .ok (.aload_n 3, 1) := by decide +kernel
theorem dX6_poll_70 : decode cX6_poll 70 = .ok (.getfield 92, 3) := by decide +kernel
theorem dX6_poll_73 : decode cX6_poll 73 = .ok (.ifCond .eq 7, 3) := by decide +kernel
theorem dX6_poll_76 : decode cX6_poll 76 = .ok (.iconst 4, 1) := by decide +kernel
theorem dX6_poll_77 : decode cX6_poll 77 = .ok (.goto 4, 3) := by decide +kernel
theorem dX6_poll_80 : decode cX6_poll 80 = .ok (.iconst 0, 1) := by decide +kernel
theorem dX6_poll_81 : decode cX6_poll 81 = .ok (.iadd, 1) := by decide +kernel
theorem dX6_poll_82 : decode cX6_poll 82 = .ok (.ireturn, 1) := by decide +kernel
set_option maxRecDepth 20000 in
theorem ggX6_signals_X6_isProcess : GoodIn wsX6_signals wsX6_isProcess := goodIn_r _ [5] (by decide +kernel) (by decide +kernel)
set_option maxRecDepth 20000 in
theorem gX6_signals_X6_isProcess : GoodIn wsX6_signals (va_wsS RX6 71 yX6_isProcess wsX6_isProcess) := goodIn_app (goodIn_of _ (by decide +kernel)) ggX6_signals_X6_isProcess
theorem dX6_signals_0 : decode cX6_signals 0 = .ok (.iload_n 1, 1) := by decide +kernel
theorem dX6_signals_1 : decode cX6_signals 1 = .ok (.invokestatic 71, 3) := by decide +kernel
theorem dX6_signals_4 : decode cX6_signals 4 = .ok (.ifCond .ne 5, 3) := by decide +kernel
theorem dX6_signals_7 : decode cX6_signals 7 = .ok (.iconst (-1), 1) := by decide +kernel
theorem dX6_signals_8 : decode cX6_signals 8 = .ok (.ireturn, 1) := by decide +kernel
theorem dX6_signals_9 : decode cX6_signals 9 = .ok (.aload_n 0, 1) := by decide +kernel
theorem dX6_signals_10 : decode cX6_signals 10 = .ok (.getfield 12, 3) := by decide +kernel
theorem dX6_signals_13 : decode cX6_signals 13 = .ok (.getfield 160, 3) := by decide +kernel
theorem dX6_signals_16 : decode cX6_signals 16 = .ok (.iload_n 1, 1) := by decide +kernel
theorem dX6_signals_17 : decode cX6_signals 17 = .ok (.iaload, 1) := by decide +kernel
theorem dX6_signals_18 : decode cX6_signals 18 = .ok (.istore_n 2, 1) := by decide +kernel
theorem dX6_signals_19 : decode cX6_signals 19 = .ok (.aload_n 0, 1) := by decide +kernel
theorem dX6_signals_20 : decode cX6_signals 20 = .ok (.getfield 12, 3) := by decide +kernel
theorem dX6_signals_23 : decode cX6_signals 23 = .ok (.getfield 160, 3) := by decide +kernel
theorem dX6_signals_26 : decode cX6_signals 26 = .ok (.iload_n 1, 1) := by decide +kernel
theorem dX6_signals_27 : decode cX6_signals 27 = .ok (.iconst 0, 1) := by decide +kernel
theorem dX6_signals_28 : decode cX6_signals 28 = .ok (.iastore, 1) := by decide +kernel
theorem dX6_signals_29 : decode cX6_signals 29 = .ok (.iload_n 2, 1) := by decide +kernel
theorem dX6_signals_30 : decode cX6_signals 30 = .ok (.ireturn, 1) := by decide +kernel
set_option maxRecDepth 20000 in
theorem ggX6_count_X6_isPort : GoodIn wsX6_count wsX6_isPort := goodIn_r _ [5] (by decide +kernel) (by decide +kernel)
set_option maxRecDepth 20000 in
theorem gX6_count_X6_isPort : GoodIn wsX6_count (va_wsS RX6 25 yX6_isPort wsX6_isPort) := goodIn_app (goodIn_of _ (by decide +kernel)) ggX6_count_X6_isPort
theorem dX6_count_0 : decode cX6_count 0 = .ok (.iload_n 1, 1) := by decide +kernel
theorem dX6_count_1 : decode cX6_count 1 = .ok (.invokestatic 25, 3) := by decide +kernel
theorem dX6_count_4 : decode cX6_count 4 = .ok (.ifCond .eq 26, 3) := by decide +kernel
theorem dX6_count_7 : decode cX6_count 7 = .ok (.iload_n 2, 1) := by decide +kernel
theorem dX6_count_8 : decode cX6_count 8 = .ok (.ifCond .lt 22, 3) := by decide +kernel
theorem dX6_count_11 : decode cX6_count 11 = .ok (.iload_n 2, 1) := by decide +kernel
theorem dX6_count_12 : decode cX6_count 12 = .ok (.iconst 5, 1) := by decide +kernel
theorem dX6_count_13 : decode cX6_count 13 = .ok (.if_icmp .ge 17, 3) := by decide +kernel
theorem dX6_count_16 : decode cX6_count 16 = .ok (.aload_n 0, 1) := by decide +kernel
theorem dX6_count_17 : decode cX6_count 17 = .ok (.getfield 18, 3) := by decide +kernel
theorem dX6_count_20 : decode cX6_count 20 = .ok (.iload_n 1, 1) := by decide +kernel
theorem dX6_count_21 : decode cX6_count 21 = .ok (.aaload, 1) := by decide +kernel
theorem dX6_count_22 : decode cX6_count 22 = .ok (.getfield 163, 3) := by decide +kernel
theorem dX6_count_25 : decode cX6_count 25 = .ok (.iload_n 2, 1) := by decide +kernel
theorem dX6_count_26 : decode cX6_count 26 = .ok (.iaload, 1) := by decide +kernel
theorem dX6_count_27 : decode cX6_count 27 = .ok (.goto 4, 3) := by decide +kernel
theorem dX6_count_30 : decode cX6_count 30 = .ok (.iconst (-1), 1) := by decide +kernel
theorem dX6_count_31 : decode cX6_count 31 = .ok (.ireturn, 1) := by decide +kernel
set_option maxRecDepth 20000 in
theorem ggX6_column_X6_isPort : GoodIn wsX6_column wsX6_isPort := goodIn_r _ [5] (by decide +kernel) (by decide +kernel)
set_option maxRecDepth 20000 in
theorem gX6_column_X6_isPort : GoodIn wsX6_column (va_wsS RX6 25 yX6_isPort wsX6_isPort) := goodIn_app (goodIn_of _ (by decide +kernel)) ggX6_column_X6_isPort
theorem dX6_column_0 : decode cX6_column 0 = .ok (.iload_n 1, 1) := by decide +kernel
theorem dX6_column_1 : decode cX6_column 1 = .ok (.invokestatic 25, 3) := by decide +kernel
theorem dX6_column_4 : decode cX6_column 4 = .ok (.ifCond .eq 18, 3) := by decide +kernel
theorem dX6_column_7 : decode cX6_column 7 = .ok (.aload_n 0, 1) := by decide +kernel
theorem dX6_column_8 : decode cX6_column 8 = .ok (.getfield 18, 3) := by decide +kernel
theorem dX6_column_11 : decode cX6_column 11 = .ok (.iload_n 1, 1) := by decide +kernel
theorem dX6_column_12 : decode cX6_column 12 = .ok (.aaload, 1) := by decide +kernel
theorem dX6_column_13 : decode cX6_column 13 = .ok (.getfield 36, 3) := by decide +kernel
theorem dX6_column_16 : decode cX6_column 16 = .ok (.getfield 166, 3) := by decide +kernel
theorem dX6_column_19 : decode cX6_column 19 = .ok (.goto 4, 3) := by decide +kernel
theorem dX6_column_22 : decode cX6_column 22 = .ok (.iconst (-1), 1) := by decide +kernel
theorem dX6_column_23 : decode cX6_column 23 = .ok (.ireturn, 1) := by decide +kernel
set_option maxRecDepth 20000 in
theorem ggX6_flush_X6_isPort : GoodIn wsX6_flush wsX6_isPort := goodIn_r _ [5] (by decide +kernel) (by decide +kernel)
set_option maxRecDepth 20000 in
theorem gX6_flush_X6_isPort : GoodIn wsX6_flush (va_wsS RX6 25 yX6_isPort wsX6_isPort) := goodIn_app (goodIn_of _ (by decide +kernel)) ggX6_flush_X6_isPort
set_option maxRecDepth 20000 in
theorem ggX6_flush_X2_emptyStore : GoodIn wsX6_flush wsX2_emptyStore := goodIn_r _ [10, 11, 12, 13, 14, 15, 16, 17, 18, 19, 20, 21, 22, 23, 24, 25, 26, 27, 9, 28, 29, 30, 102, 103, 104, 105, 106, 107, 108, 109, 110, 111, 112, 113, 114, 115, 116, 117, 118, 119, 120, 121, 122] (by decide +kernel) (by decide +kernel)
set_option maxRecDepth 20000 in
theorem gX6_flush_X2_emptyStore : GoodIn wsX6_flush (wsV RX6 169 RX2 yX2_emptyStore wsX2_emptyStore) := goodIn_app (goodIn_of _ (by decide +kernel)) ggX6_flush_X2_emptyStore
set_option maxRecDepth 20000 in
theorem ggX6_flush_X2_emptyOutput : GoodIn wsX6_flush wsX2_emptyOutput := goodIn_r _ [34, 35, 36, 37, 20, 21, 22, 23, 24, 38, 39, 40, 41, 42, 43, 44, 45, 46, 47, 48, 49, 50, 51, 9, 52, 53, 54, 55, 56, 57, 7, 8, 10, 11, 12, 13, 14, 15, 16, 17, 18, 19, 25, 26, 27, 28, 29, 30, 58, 59, 60, 61, 62, 63, 64, 65, 66, 67, 68, 69, 70, 71, 72, 73, 74, 75, 76, 77, 78, 79, 80, 81, 82, 83, 84, 85, 86, 87, 88, 89, 90, 91, 92, 93, 94, 95, 96, 97, 98, 99, 102, 103, 104, 105, 106, 107, 108, 109, 110, 111, 112, 113, 114, 115, 116, 123, 124, 125, 126, 127, 120, 121, 122, 128, 129, 130, 131, 132, 117, 118, 119] (by decide +kernel) (by decide +kernel)
set_option maxRecDepth 20000 in
theorem gX6_flush_X2_emptyOutput : GoodIn wsX6_flush (wsV RX6 172 RX2 yX2_emptyOutput wsX2_emptyOutput) := goodIn_app (goodIn_of _ (by decide +kernel)) ggX6_flush_X2_emptyOutput
theorem dX6_flush_0 : decode cX6_flush 0 = .ok (.iload_n 1, 1) := by decide +kernel
theorem dX6_flush_1 : decode cX6_flush 1 = .ok (.invokestatic 25, 3) := by decide +kernel
theorem dX6_flush_4 : decode cX6_flush 4 = .ok (.ifCond .eq 12, 3) := by decide +kernel
theorem dX6_flush_7 : decode cX6_flush 7 = .ok (.iload_n 2, 1) := by decide +kernel
theorem dX6_flush_8 : decode cX6_flush 8 = .ok (.ifCond .lt 8, 3) := by decide +kernel
theorem dX6_flush_11 : decode cX6_flush 11 = .ok (.iload_n 2, 1) := by decide +kernel
theorem dX6_flush_12 : decode cX6_flush 12 = .ok (.iconst 2, 1) := by decide +kernel
theorem dX6_flush_13 : decode cX6_flush 13 = .ok (.if_icmp .le 5, 3) := by decide +kernel
theorem dX6_flush_16 : decode cX6_flush 16 = .ok (.iconst 0, 1) := by decide +kernel
theorem dX6_flush_17 : decode cX6_flush 17 = .ok (.ireturn, 1) := by decide +kernel
theorem dX6_flush_18 : decode cX6_flush 18 = .ok (.iload_n 2, 1) := by decide +kernel
theorem dX6_flush_19 : decode cX6_flush 19 = .ok (.iconst 1, 1) := by decide +kernel
theorem dX6_flush_20 : decode cX6_flush 20 = .ok (.if_icmp .eq 12, 3) := by decide +kernel
theorem dX6_flush_23 : decode cX6_flush 23 = .ok (.aload_n 0, 1) := by decide +kernel
theorem dX6_flush_24 : decode cX6_flush 24 = .ok (.getfield 18, 3) := by decide +kernel
theorem dX6_flush_27 : decode cX6_flush 27 = .ok (.iload_n 1, 1) := by decide +kernel
theorem dX6_flush_28 : decode cX6_flush 28 = .ok (.aaload, 1) := by decide +kernel
theorem dX6_flush_29 : decode cX6_flush 29 = .ok (.invokevirtual 169, 3) := by decide +kernel
theorem dX6_flush_32 : decode cX6_flush 32 = .ok (.iload_n 2, 1) := by decide +kernel
theorem dX6_flush_33 : decode cX6_flush 33 = .ok (.ifCond .eq 12, 3) := by decide +kernel
theorem dX6_flush_36 : decode cX6_flush 36 = .ok (.aload_n 0, 1) := by decide +kernel
theorem dX6_flush_37 : decode cX6_flush 37 = .ok (.getfield 18, 3) := by decide +kernel
theorem dX6_flush_40 : decode cX6_flush 40 = .ok (.iload_n 1, 1) := by decide +kernel
theorem dX6_flush_41 : decode cX6_flush 41 = .ok (.aaload, 1) := by decide +kernel
theorem dX6_flush_42 : decode cX6_flush 42 = .ok (.invokevirtual 172, 3) := by decide +kernel
theorem dX6_flush_45 : decode cX6_flush 45 = .ok (.iconst 1, 1) := by decide +kernel
theorem dX6_flush_46 : decode cX6_flush 46 = .ok (.ireturn, 1) := by decide +kernel
set_option maxRecDepth 20000 in
theorem ggX6_ready_X6_isPort : GoodIn wsX6_ready wsX6_isPort := goodIn_r _ [5] (by decide +kernel) (by decide +kernel)
set_option maxRecDepth 20000 in
theorem gX6_ready_X6_isPort : GoodIn wsX6_ready (va_wsS RX6 25 yX6_isPort wsX6_isPort) := goodIn_app (goodIn_of _ (by decide +kernel)) ggX6_ready_X6_isPort
theorem dX6_ready_0 : decode cX6_ready 0 = .ok (.iload_n 1, 1) := by decide +kernel
theorem dX6_ready_1 : decode cX6_ready 1 = .ok (.invokestatic 25, 3) := by decide +kernel
theorem dX6_ready_4 : decode cX6_ready 4 = .ok (.ifCond .eq 18, 3) := by decide +kernel
theorem dX6_ready_7 : decode cX6_ready 7 = .ok (.aload_n 0, 1) := by decide +kernel
theorem dX6_ready_8 : decode cX6_ready 8 = .ok (.getfield 18, 3) := by decide +kernel
theorem dX6_ready_11 : decode cX6_ready 11 = .ok (.iload_n 1, 1) := by decide +kernel
theorem dX6_ready_12 : decode cX6_ready 12 = .ok (.aaload, 1) := by decide +kernel
theorem dX6_ready_13 : decode cX6_ready 13 = .ok (.getfield 120, 3) := by decide +kernel
theorem dX6_ready_16 : decode cX6_ready 16 = .ok (.getfield 124, 3) := by decide +kernel
theorem dX6_ready_19 : decode cX6_ready 19 = .ok (.goto 4, 3) := by decide +kernel
theorem dX6_ready_22 : decode cX6_ready 22 = .ok (.iconst (-1), 1) := by decide +kernel
theorem dX6_ready_23 : decode cX6_ready 23 = .ok (.ireturn, 1) := by decide +kernel
set_option maxRecDepth 20000 in
theorem ggX6_tick_X2_pass : GoodIn wsX6_tick wsX2_pass := goodIn_r _ [6, 7, 8, 9, 10, 11, 12, 13, 14, 15, 16, 17, 18, 19, 5, 20, 21, 22, 23, 24, 25, 26, 27, 28, 29, 30, 31, 32, 33, 34, 35, 36, 37, 38, 39, 40, 41, 42, 43, 44, 45, 46, 47, 48, 49, 50, 51, 52, 53, 54, 55, 56, 57, 58, 59, 60, 61, 62, 63, 64, 65, 66, 67, 68, 69, 70, 71, 72, 73, 74, 75, 76, 77, 78, 79, 80, 81, 82, 83, 84, 85, 86, 87, 88, 89, 90, 91, 92, 93, 94, 95, 96, 97, 98, 99, 100, 101, 102, 103, 104, 105, 106, 107, 108, 109, 110, 111, 112, 113, 114, 115, 116, 117, 118, 119, 120, 121, 122, 123, 124, 125, 126, 127, 128, 129, 130, 131, 132, 133, 134, 135, 136, 137, 138, 139, 140, 141, 142, 143, 144, 145, 146, 147, 148, 149, 150, 151, 152, 153, 154, 155, 156, 157, 158, 159, 160, 161, 162, 163, 164, 165, 166, 167, 168, 169, 170, 171, 172, 173, 174, 175, 176, 177, 178, 179, 180, 181, 182, 183, 184, 185, 186, 187, 188, 189, 231, 232, 233, 234, 235, 236, 237, 238, 239, 240, 241, 242, 243, 244, 245, 246, 247, 248, 249, 250, 251, 252, 253, 254, 255, 256, 257, 258, 259, 260, 261, 262, 263] (by decide +kernel) (by decide +kernel)
set_option maxRecDepth 20000 in
theorem gX6_tick_X2_pass : GoodIn wsX6_tick (wsV RX6 117 RX2 yX2_pass wsX2_pass) := goodIn_app (goodIn_of _ (by decide +kernel)) ggX6_tick_X2_pass
set_option maxRecDepth 20000 in
theorem ggX6_tick_X2_letTimePass : GoodIn wsX6_tick wsX2_letTimePass := goodIn_r _ [193, 46, 21, 23, 24, 25, 5, 26, 138, 139, 140, 50, 141, 52, 53, 231, 232, 233, 234, 235, 236, 237, 238, 239, 240, 241, 242, 243, 244, 245, 256, 257, 258, 246, 247, 248] (by decide +kernel) (by decide +kernel)
set_option maxRecDepth 20000 in
theorem gX6_tick_X2_letTimePass : GoodIn wsX6_tick (wsV RX6 175 RX2 yX2_letTimePass wsX2_letTimePass) := goodIn_app (goodIn_of _ (by decide +kernel)) ggX6_tick_X2_letTimePass
set_option maxRecDepth 20000 in
theorem ggX6_tick_X2_settle : GoodIn wsX6_tick wsX2_settle := goodIn_r _ [197, 33, 198, 199, 200, 99, 201, 202, 101, 103, 104, 105, 12, 106, 15, 14, 203, 10, 11, 13, 16, 111, 89, 90, 91, 204, 205, 206, 5, 207, 34, 208, 209, 210, 68, 211, 70, 71, 42, 43, 44, 45, 46, 47, 48, 49, 50, 51, 52, 53, 54, 55, 56, 57, 58, 59, 60, 61, 62, 63, 212, 213, 214, 215, 21, 216, 217, 218, 219, 220, 130, 138, 139, 140, 141, 131, 132, 133, 134, 135, 136, 74, 137, 23, 24, 25, 26, 221, 222, 223, 224, 225, 226, 227, 228, 231, 232, 233, 234, 235, 236, 237, 238, 239, 240, 241, 242, 243, 244, 245, 249, 250, 251, 252, 253, 246, 247, 248, 259, 260, 261, 262, 263, 256, 257, 258] (by decide +kernel) (by decide +kernel)
set_option maxRecDepth 20000 in
theorem gX6_tick_X2_settle : GoodIn wsX6_tick (wsV RX6 49 RX2 yX2_settle wsX2_settle) := goodIn_app (goodIn_of _ (by decide +kernel)) ggX6_tick_X2_settle
theorem dX6_tick_0 : decode cX6_tick 0 = .ok (.iconst 0, 1) := by decide +kernel
theorem dX6_tick_1 : decode cX6_tick 1 = .ok (.istore_n 1, 1) := by decide +kernel
theorem dX6_tick_2 : decode cX6_tick 2 = .ok (.iload_n 1, 1) := by decide +kernel
theorem dX6_tick_3 : decode cX6_tick 3 = .ok (.iconst 4, 1) := by decide +kernel
theorem dX6_tick_4 : decode cX6_tick 4 = .ok (.if_icmp .ge 36, 3) := by decide +kernel
theorem dX6_tick_7 : decode cX6_tick 7 = .ok (.aload_n 0, 1) := by decide +kernel
theorem dX6_tick_8 : decode cX6_tick 8 = .ok (.getfield 18, 3) := by decide +kernel
theorem dX6_tick_11 : decode cX6_tick 11 = .ok (.iload_n 1, 1) := by decide +kernel
theorem dX6_tick_12 : decode cX6_tick 12 = .ok (.aaload, 1) := by decide +kernel
theorem dX6_tick_13 : decode cX6_tick 13 = .ok (.invokevirtual 117, 3) := by decide +kernel
theorem dX6_tick_16 : decode cX6_tick 16 = .ok (.aload_n 0, 1) := by decide +kernel
theorem dX6_tick_17 : decode cX6_tick 17 = .ok (.getfield 18, 3) := by decide +kernel
theorem dX6_tick_20 : decode cX6_tick 20 = .ok (.iload_n 1, 1) := by decide +kernel
theorem dX6_tick_21 : decode cX6_tick 21 = .ok (.aaload, 1) := by decide +kernel
theorem dX6_tick_22 : decode cX6_tick 22 = .ok (.invokevirtual 175, 3) := by decide +kernel
theorem dX6_tick_25 : decode cX6_tick 25 = .ok (.aload_n 0, 1) := by decide +kernel
theorem dX6_tick_26 : decode cX6_tick 26 = .ok (.getfield 18, 3) := by decide +kernel
theorem dX6_tick_29 : decode cX6_tick 29 = .ok (.iload_n 1, 1) := by decide +kernel
theorem dX6_tick_30 : decode cX6_tick 30 = .ok (.aaload, 1) := by decide +kernel
theorem dX6_tick_31 : decode cX6_tick 31 = .ok (.invokevirtual 49, 3) := by decide +kernel
theorem dX6_tick_34 : decode cX6_tick 34 = .ok (.iinc 1 1, 3) := by decide +kernel
theorem dX6_tick_37 : decode cX6_tick 37 = .ok (.goto (-35), 3) := by decide +kernel
theorem dX6_tick_40 : decode cX6_tick 40 = .ok (.return_, 1) := by decide +kernel
theorem dX6_isPort_0 : decode cX6_isPort 0 = .ok (.iload_n 0, 1) := by decide +kernel
theorem dX6_isPort_1 : decode cX6_isPort 1 = .ok (.ifCond .lt 12, 3) := by decide +kernel
theorem dX6_isPort_4 : decode cX6_isPort 4 = .ok (.iload_n 0, 1) := by decide +kernel
theorem dX6_isPort_5 : decode cX6_isPort 5 = .ok (.iconst 4, 1) := by decide +kernel
theorem dX6_isPort_6 : decode cX6_isPort 6 = .ok (.if_icmp .ge 7, 3) := by decide +kernel
theorem dX6_isPort_9 : decode cX6_isPort 9 = .ok (.iconst 1, 1) := by decide +kernel
theorem dX6_isPort_10 : decode cX6_isPort 10 = .ok (.goto 4, 3) := by decide +kernel
theorem dX6_isPort_13 : decode cX6_isPort 13 = .ok (.iconst 0, 1) := by decide +kernel
theorem dX6_isPort_14 : decode cX6_isPort 14 = .ok (.ireturn, 1) := by decide +kernel
theorem dX6_isProcess_0 : decode cX6_isProcess 0 = .ok (.iload_n 0, 1) := by decide +kernel
theorem dX6_isProcess_1 : decode cX6_isProcess 1 = .ok (.ifCond .lt 13, 3) := by decide +kernel
theorem dX6_isProcess_4 : decode cX6_isProcess 4 = .ok (.iload_n 0, 1) := by decide +kernel
theorem dX6_isProcess_5 : decode cX6_isProcess 5 = .ok (.bipush 8, 2) := by decide +kernel
theorem dX6_isProcess_7 : decode cX6_isProcess 7 = .ok (.if_icmp .ge 7, 3) := by decide +kernel
theorem dX6_isProcess_10 : decode cX6_isProcess 10 = .ok (.iconst 1, 1) := by decide +kernel
theorem dX6_isProcess_11 : decode cX6_isProcess 11 = .ok (.goto 4, 3) := by decide +kernel
theorem dX6_isProcess_14 : decode cX6_isProcess 14 = .ok (.iconst 0, 1) := by decide +kernel
theorem dX6_isProcess_15 : decode cX6_isProcess 15 = .ok (.ireturn, 1) := by decide +kernel
theorem dX6_isGroup_0 : decode cX6_isGroup 0 = .ok (.iload_n 0, 1) := by decide +kernel
theorem dX6_isGroup_1 : decode cX6_isGroup 1 = .ok (.ifCond .lt 13, 3) := by decide +kernel
theorem dX6_isGroup_4 : decode cX6_isGroup 4 = .ok (.iload_n 0, 1) := by decide +kernel
theorem dX6_isGroup_5 : decode cX6_isGroup 5 = .ok (.bipush 8, 2) := by decide +kernel
theorem dX6_isGroup_7 : decode cX6_isGroup 7 = .ok (.if_icmp .ge 7, 3) := by decide +kernel
theorem dX6_isGroup_10 : decode cX6_isGroup 10 = .ok (.iconst 1, 1) := by decide +kernel
theorem dX6_isGroup_11 : decode cX6_isGroup 11 = .ok (.goto 4, 3) := by decide +kernel
theorem dX6_isGroup_14 : decode cX6_isGroup 14 = .ok (.iconst 0, 1) := by decide +kernel
theorem dX6_isGroup_15 : decode cX6_isGroup 15 = .ok (.ireturn, 1) := by decide +kernel
theorem dX6_isMode_0 : decode cX6_isMode 0 = .ok (.iload_n 0, 1) := by decide +kernel
theorem dX6_isMode_1 : decode cX6_isMode 1 = .ok (.ifCond .lt 13, 3) := by decide +kernel
theorem dX6_isMode_4 : decode cX6_isMode 4 = .ok (.iload_n 0, 1) := by decide +kernel
theorem dX6_isMode_5 : decode cX6_isMode 5 = .ok (.bipush 25, 2) := by decide +kernel
theorem dX6_isMode_7 : decode cX6_isMode 7 = .ok (.if_icmp .ge 7, 3) := by decide +kernel
theorem dX6_isMode_10 : decode cX6_isMode 10 = .ok (.iconst 1, 1) := by decide +kernel
theorem dX6_isMode_11 : decode cX6_isMode 11 = .ok (.goto 4, 3) := by decide +kernel
theorem dX6_isMode_14 : decode cX6_isMode 14 = .ok (.iconst 0, 1) := by decide +kernel
theorem dX6_isMode_15 : decode cX6_isMode 15 = .ok (.ireturn, 1) := by decide +kernel
theorem dX6_isByte_0 : decode cX6_isByte 0 = .ok (.iload_n 0, 1) := by decide +kernel
theorem dX6_isByte_1 : decode cX6_isByte 1 = .ok (.ifCond .lt 14, 3) := by decide +kernel
theorem dX6_isByte_4 : decode cX6_isByte 4 = .ok (.iload_n 0, 1) := by decide +kernel
theorem dX6_isByte_5 : decode cX6_isByte 5 = .ok (.sipush 255, 3) := by decide +kernel
theorem dX6_isByte_8 : decode cX6_isByte 8 = .ok (.if_icmp .gt 7, 3) := by decide +kernel
theorem dX6_isByte_11 : decode cX6_isByte 11 = .ok (.iconst 1, 1) := by decide +kernel
theorem dX6_isByte_12 : decode cX6_isByte 12 = .ok (.goto 4, 3) := by decide +kernel
theorem dX6_isByte_15 : decode cX6_isByte 15 = .ok (.iconst 0, 1) := by decide +kernel
theorem dX6_isByte_16 : decode cX6_isByte 16 = .ok (.ireturn, 1) := by decide +kernel
theorem dX6_mostOf_0 : decode cX6_mostOf 0 = .ok (.iload_n 0, 1) := by decide +kernel
theorem dX6_mostOf_1 : decode cX6_mostOf 1 = .ok (.bipush 12, 2) := by decide +kernel
theorem dX6_mostOf_3 : decode cX6_mostOf 3 = .ok (.if_icmp .ge 5, 3) := by decide +kernel
theorem dX6_mostOf_6 : decode cX6_mostOf 6 = .ok (.iconst 1, 1) := by decide +kernel
theorem dX6_mostOf_7 : decode cX6_mostOf 7 = .ok (.ireturn, 1) := by decide +kernel
theorem dX6_mostOf_8 : decode cX6_mostOf 8 = .ok (.iload_n 0, 1) := by decide +kernel
theorem dX6_mostOf_9 : decode cX6_mostOf 9 = .ok (.bipush 12, 2) := by decide +kernel
theorem dX6_mostOf_11 : decode cX6_mostOf 11 = .ok (.if_icmp .ne 6, 3) := by decide +kernel
theorem dX6_mostOf_14 : decode cX6_mostOf 14 = .ok (.bipush 32, 2) := by decide +kernel
theorem dX6_mostOf_16 : decode cX6_mostOf 16 = .ok (.ireturn, 1) := by decide +kernel
theorem dX6_mostOf_17 : decode cX6_mostOf 17 = .ok (.iload_n 0, 1) := by decide +kernel
theorem dX6_mostOf_18 : decode cX6_mostOf 18 = .ok (.bipush 13, 2) := by decide +kernel
theorem dX6_mostOf_20 : decode cX6_mostOf 20 = .ok (.if_icmp .ne 8, 3) := by decide +kernel
theorem dX6_mostOf_23 : decode cX6_mostOf 23 = .ok (.bipush 20, 2) := by decide +kernel
theorem dX6_mostOf_25 : decode cX6_mostOf 25 = .ok (.goto 6, 3) := by decide +kernel
theorem dX6_mostOf_28 : decode cX6_mostOf 28 = .ok (.sipush 256, 3) := by decide +kernel
theorem dX6_mostOf_31 : decode cX6_mostOf 31 = .ok (.ireturn, 1) := by decide +kernel
