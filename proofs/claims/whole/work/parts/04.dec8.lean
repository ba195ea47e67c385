set_option maxRecDepth 20000 in
theorem ggX8_init_X0_init : GoodIn wsX8_init wsX0_init := goodIn_r _ [37, 38, 2, 3, 39, 40, 41, 42, 93, 94, 95] (by decide +kernel) (by decide +kernel)
set_option maxRecDepth 20000 in
theorem gX8_init_X0_init : GoodIn wsX8_init (wsX0_init) := ggX8_init_X0_init
set_option maxRecDepth 20000 in
theorem ggX8_init_X4_init : GoodIn wsX8_init wsX4_init := goodIn_r _ [45, 46, 2, 3, 47, 48, 49, 39, 50, 51, 52, 105, 106, 107, 108, 109] (by decide +kernel) (by decide +kernel)
set_option maxRecDepth 20000 in
theorem gX8_init_X4_init : GoodIn wsX8_init (wsX4_init) := ggX8_init_X4_init
set_option maxRecDepth 20000 in
theorem ggX8_init_X7_init : GoodIn wsX8_init wsX7_init := goodIn_r _ [55, 56, 2, 3, 47, 57, 39, 58, 59, 110, 111, 112] (by decide +kernel) (by decide +kernel)
set_option maxRecDepth 20000 in
theorem gX8_init_X7_init : GoodIn wsX8_init (wsX7_init) := ggX8_init_X7_init
set_option maxRecDepth 20000 in
theorem ggX8_init_X6_init : GoodIn wsX8_init wsX6_init := goodIn_r _ [62, 63, 2, 3, 32, 64, 39, 65, 66, 67, 68, 69, 70, 113, 114, 115, 116, 117, 118, 119] (by decide +kernel) (by decide +kernel)
set_option maxRecDepth 20000 in
theorem gX8_init_X6_init : GoodIn wsX8_init (wsX6_init) := ggX8_init_X6_init
set_option maxRecDepth 20000 in
theorem ggX8_init_X2_init : GoodIn wsX8_init wsX2_init := goodIn_r _ [73, 74, 2, 3, 32, 75, 39, 76, 77, 78, 120, 121, 122, 123] (by decide +kernel) (by decide +kernel)
set_option maxRecDepth 20000 in
theorem gX8_init_X2_init : GoodIn wsX8_init (wsX2_init) := ggX8_init_X2_init
set_option maxRecDepth 20000 in
theorem ggX8_init_X1_init : GoodIn wsX8_init wsX1_init := goodIn_r _ [81, 82, 2, 3, 39, 83, 47, 84, 32, 85, 86, 124, 125, 126, 127] (by decide +kernel) (by decide +kernel)
set_option maxRecDepth 20000 in
theorem gX8_init_X1_init : GoodIn wsX8_init (wsX1_init) := ggX8_init_X1_init
set_option maxRecDepth 20000 in
theorem ggX8_init_X3_init : GoodIn wsX8_init wsX3_init := goodIn_r _ [89, 90, 2, 3, 39, 91, 92, 128, 129] (by decide +kernel) (by decide +kernel)
set_option maxRecDepth 20000 in
theorem gX8_init_X3_init : GoodIn wsX8_init (wsX3_init) := ggX8_init_X3_init
theorem dX8_init_0 : decode cX8_init 0 = .ok (.aload_n 0, 1) := by decide +kernel
theorem dX8_init_1 : decode cX8_init 1 = .ok (.invokespecial 1, 3) := by decide +kernel
theorem dX8_init_4 : decode cX8_init 4 = .ok (.aload_n 0, 1) := by decide +kernel
theorem dX8_init_5 : decode cX8_init 5 = .ok (.new 7, 3) := by decide +kernel
theorem dX8_init_8 : decode cX8_init 8 = .ok (.dup, 1) := by decide +kernel
theorem dX8_init_9 : decode cX8_init 9 = .ok (.invokespecial 9, 3) := by decide +kernel
theorem dX8_init_12 : decode cX8_init 12 = .ok (.putfield 10, 3) := by decide +kernel
theorem dX8_init_15 : decode cX8_init 15 = .ok (.aload_n 0, 1) := by decide +kernel
theorem dX8_init_16 : decode cX8_init 16 = .ok (.new 16, 3) := by decide +kernel
theorem dX8_init_19 : decode cX8_init 19 = .ok (.dup, 1) := by decide +kernel
theorem dX8_init_20 : decode cX8_init 20 = .ok (.invokespecial 18, 3) := by decide +kernel
theorem dX8_init_23 : decode cX8_init 23 = .ok (.putfield 19, 3) := by decide +kernel
theorem dX8_init_26 : decode cX8_init 26 = .ok (.aload_n 0, 1) := by decide +kernel
theorem dX8_init_27 : decode cX8_init 27 = .ok (.new 23, 3) := by decide +kernel
theorem dX8_init_30 : decode cX8_init 30 = .ok (.dup, 1) := by decide +kernel
theorem dX8_init_31 : decode cX8_init 31 = .ok (.invokespecial 25, 3) := by decide +kernel
theorem dX8_init_34 : decode cX8_init 34 = .ok (.putfield 26, 3) := by decide +kernel
theorem dX8_init_37 : decode cX8_init 37 = .ok (.aload_n 0, 1) := by decide +kernel
theorem dX8_init_38 : decode cX8_init 38 = .ok (.new 30, 3) := by decide +kernel
theorem dX8_init_41 : decode cX8_init 41 = .ok (.dup, 1) := by decide +kernel
theorem dX8_init_42 : decode cX8_init 42 = .ok (.invokespecial 32, 3) := by decide +kernel
theorem dX8_init_45 : decode cX8_init 45 = .ok (.putfield 33, 3) := by decide +kernel
theorem dX8_init_48 : decode cX8_init 48 = .ok (.aload_n 0, 1) := by decide +kernel
theorem dX8_init_49 : decode cX8_init 49 = .ok (.new 37, 3) := by decide +kernel
theorem dX8_init_52 : decode cX8_init 52 = .ok (.dup, 1) := by decide +kernel
theorem dX8_init_53 : decode cX8_init 53 = .ok (.invokespecial 39, 3) := by decide +kernel
theorem dX8_init_56 : decode cX8_init 56 = .ok (.putfield 40, 3) := by decide +kernel
theorem dX8_init_59 : decode cX8_init 59 = .ok (.aload_n 0, 1) := by decide +kernel
theorem dX8_init_60 : decode cX8_init 60 = .ok (.new 44, 3) := by decide +kernel
theorem dX8_init_63 : decode cX8_init 63 = .ok (.dup, 1) := by decide +kernel
theorem dX8_init_64 : decode cX8_init 64 = .ok (.invokespecial 46, 3) := by decide +kernel
theorem dX8_init_67 : decode cX8_init 67 = .ok (.putfield 47, 3) := by decide +kernel
theorem dX8_init_70 : decode cX8_init 70 = .ok (.aload_n 0, 1) := by decide +kernel
theorem dX8_init_71 : decode cX8_init 71 = .ok (.new 51, 3) := by decide +kernel
theorem dX8_init_74 : decode cX8_init 74 = .ok (.dup, 1) := by decide +kernel
theorem dX8_init_75 : decode cX8_init 75 = .ok (.invokespecial 53, 3) := by decide +kernel
theorem dX8_init_78 : decode cX8_init 78 = .ok (.putfield 54, 3) := by decide +kernel
theorem dX8_init_81 : decode cX8_init 81 = .ok (.aload_n 0, 1) := by decide +kernel
theorem dX8_init_82 : decode cX8_init 82 = .ok (.iconst 3, 1) := by decide +kernel
theorem dX8_init_83 : decode cX8_init 83 = .ok (.newarray .long, 2) := by decide +kernel
theorem dX8_init_85 : decode cX8_init 85 = .ok (.putfield 58, 3) := by decide +kernel
theorem dX8_init_88 : decode cX8_init 88 = .ok (.aload_n 0, 1) := by decide +kernel
theorem dX8_init_89 : decode cX8_init 89 = .ok (.iconst 0, 1) := by decide +kernel
theorem dX8_init_90 : decode cX8_init 90 = .ok (.putfield 62, 3) := by decide +kernel
theorem dX8_init_93 : decode cX8_init 93 = .ok (.return_, 1) := by decide +kernel
set_option maxRecDepth 20000 in
theorem ggX8_width_X0_setWidth : GoodIn wsX8_width wsX0_setWidth := goodIn_r _ [6, 7, 8, 9, 10, 20, 21, 22] (by decide +kernel) (by decide +kernel)
set_option maxRecDepth 20000 in
theorem gX8_width_X0_setWidth : GoodIn wsX8_width (wsV RX8 66 RX0 yX0_setWidth wsX0_setWidth) := goodIn_app (goodIn_of _ (by decide +kernel)) ggX8_width_X0_setWidth
theorem dX8_width_0 : decode cX8_width 0 = .ok (.aload_n 0, 1) := by decide +kernel
theorem dX8_width_1 : decode cX8_width 1 = .ok (.getfield 10, 3) := by decide +kernel
theorem dX8_width_4 : decode cX8_width 4 = .ok (.iload_n 1, 1) := by decide +kernel
theorem dX8_width_5 : decode cX8_width 5 = .ok (.iload_n 2, 1) := by decide +kernel
theorem dX8_width_6 : decode cX8_width 6 = .ok (.invokevirtual 66, 3) := by decide +kernel
theorem dX8_width_9 : decode cX8_width 9 = .ok (.ireturn, 1) := by decide +kernel
set_option maxRecDepth 20000 in
theorem ggX8_read_X0_scan : GoodIn wsX8_read wsX0_scan := goodIn_r _ [6, 7, 8, 9, 10, 5, 11, 12, 13, 14, 15, 16, 17, 18, 19, 20, 21, 22, 23, 24, 25, 26, 27, 28, 29, 30, 31, 32, 33, 34, 35, 36, 37, 47, 48, 49] (by decide +kernel) (by decide +kernel)
set_option maxRecDepth 20000 in
theorem gX8_read_X0_scan : GoodIn wsX8_read (wsV RX8 70 RX0 yX0_scan wsX0_scan) := goodIn_app (goodIn_of _ (by decide +kernel)) ggX8_read_X0_scan
theorem dX8_read_0 : decode cX8_read 0 = .ok (.aload_n 0, 1) := by decide +kernel
theorem dX8_read_1 : decode cX8_read 1 = .ok (.getfield 10, 3) := by decide +kernel
theorem dX8_read_4 : decode cX8_read 4 = .ok (.iconst 0, 1) := by decide +kernel
theorem dX8_read_5 : decode cX8_read 5 = .ok (.invokevirtual 70, 3) := by decide +kernel
theorem dX8_read_8 : decode cX8_read 8 = .ok (.ireturn, 1) := by decide +kernel
set_option maxRecDepth 20000 in
theorem ggX8_back_X0_scan : GoodIn wsX8_back wsX0_scan := goodIn_r _ [6, 7, 8, 9, 10, 5, 11, 12, 13, 14, 15, 16, 17, 18, 19, 20, 21, 22, 23, 24, 25, 26, 27, 28, 29, 30, 31, 32, 33, 34, 35, 36, 37, 47, 48, 49] (by decide +kernel) (by decide +kernel)
set_option maxRecDepth 20000 in
theorem gX8_back_X0_scan : GoodIn wsX8_back (wsV RX8 70 RX0 yX0_scan wsX0_scan) := goodIn_app (goodIn_of _ (by decide +kernel)) ggX8_back_X0_scan
theorem dX8_back_0 : decode cX8_back 0 = .ok (.aload_n 0, 1) := by decide +kernel
theorem dX8_back_1 : decode cX8_back 1 = .ok (.getfield 10, 3) := by decide +kernel
theorem dX8_back_4 : decode cX8_back 4 = .ok (.iconst 1, 1) := by decide +kernel
theorem dX8_back_5 : decode cX8_back 5 = .ok (.invokevirtual 70, 3) := by decide +kernel
theorem dX8_back_8 : decode cX8_back 8 = .ok (.ireturn, 1) := by decide +kernel
set_option maxRecDepth 20000 in
theorem ggX8_digit_X0_digitAt : GoodIn wsX8_digit wsX0_digitAt := goodIn_r _ [9, 10, 11, 12, 13, 14, 30, 31, 32] (by decide +kernel) (by decide +kernel)
set_option maxRecDepth 20000 in
theorem gX8_digit_X0_digitAt : GoodIn wsX8_digit (wsV RX8 74 RX0 yX0_digitAt wsX0_digitAt) := goodIn_app (goodIn_of _ (by decide +kernel)) ggX8_digit_X0_digitAt
theorem dX8_digit_0 : decode cX8_digit 0 = .ok (.aload_n 0, 1) := by decide +kernel
theorem dX8_digit_1 : decode cX8_digit 1 = .ok (.getfield 10, 3) := by decide +kernel
theorem dX8_digit_4 : decode cX8_digit 4 = .ok (.iload_n 1, 1) := by decide +kernel
theorem dX8_digit_5 : decode cX8_digit 5 = .ok (.invokevirtual 74, 3) := by decide +kernel
theorem dX8_digit_8 : decode cX8_digit 8 = .ok (.istore_n 2, 1) := by decide +kernel
theorem dX8_digit_9 : decode cX8_digit 9 = .ok (.iload_n 2, 1) := by decide +kernel
theorem dX8_digit_10 : decode cX8_digit 10 = .ok (.iconst (-1), 1) := by decide +kernel
theorem dX8_digit_11 : decode cX8_digit 11 = .ok (.if_icmp .ne 11, 3) := by decide +kernel
theorem dX8_digit_14 : decode cX8_digit 14 = .ok (.new 78, 3) := by decide +kernel
theorem dX8_digit_17 : decode cX8_digit 17 = .ok (.dup, 1) := by decide +kernel
theorem dX8_digit_18 : decode cX8_digit 18 = .ok (.invokespecial 80, 3) := by decide +kernel
theorem dX8_digit_21 : decode cX8_digit 21 = .ok (.athrow, 1) := by decide +kernel
theorem dX8_digit_22 : decode cX8_digit 22 = .ok (.iload_n 2, 1) := by decide +kernel
theorem dX8_digit_23 : decode cX8_digit 23 = .ok (.ireturn, 1) := by decide +kernel
set_option maxRecDepth 20000 in
theorem ggX8_check_X5_isKind : GoodIn wsX8_check wsX5_isKind := goodIn_r _ [4, 5, 6, 7] (by decide +kernel) (by decide +kernel)
set_option maxRecDepth 20000 in
theorem gX8_check_X5_isKind : GoodIn wsX8_check (va_wsS RX8 81 yX5_isKind wsX5_isKind) := goodIn_app (goodIn_of _ (by decide +kernel)) ggX8_check_X5_isKind
set_option maxRecDepth 20000 in
theorem ggX8_check_X5_isNumber : GoodIn wsX8_check wsX5_isNumber := goodIn_r _ [10, 11] (by decide +kernel) (by decide +kernel)
set_option maxRecDepth 20000 in
theorem gX8_check_X5_isNumber : GoodIn wsX8_check (va_wsS RX8 87 yX5_isNumber wsX5_isNumber) := goodIn_app (goodIn_of _ (by decide +kernel)) ggX8_check_X5_isNumber
set_option maxRecDepth 20000 in
theorem ggX8_check_X5_checkDigit : GoodIn wsX8_check wsX5_checkDigit := goodIn_r _ [14, 15, 16, 17, 3, 18] (by decide +kernel) (by decide +kernel)
set_option maxRecDepth 20000 in
theorem gX8_check_X5_checkDigit : GoodIn wsX8_check (va_wsS RX8 91 yX5_checkDigit wsX5_checkDigit) := goodIn_app (goodIn_of _ (by decide +kernel)) ggX8_check_X5_checkDigit
theorem dX8_check_0 : decode cX8_check 0 = .ok (.iload_n 1, 1) := by decide +kernel
theorem dX8_check_1 : decode cX8_check 1 = .ok (.invokestatic 81, 3) := by decide +kernel
theorem dX8_check_4 : decode cX8_check 4 = .ok (.ifCond .eq 10, 3) := by decide +kernel
theorem dX8_check_7 : decode cX8_check 7 = .ok (.lload_n 2, 1) := by decide +kernel
theorem dX8_check_8 : decode cX8_check 8 = .ok (.invokestatic 87, 3) := by decide +kernel
theorem dX8_check_11 : decode cX8_check 11 = .ok (.ifCond .ne 5, 3) := by decide +kernel
theorem dX8_check_14 : decode cX8_check 14 = .ok (.iconst (-1), 1) := by decide +kernel
theorem dX8_check_15 : decode cX8_check 15 = .ok (.ireturn, 1) := by decide +kernel
theorem dX8_check_16 : decode cX8_check 16 = .ok (.iload_n 1, 1) := by decide +kernel
theorem dX8_check_17 : decode cX8_check 17 = .ok (.lload_n 2, 1) := by decide +kernel
theorem dX8_check_18 : decode cX8_check 18 = .ok (.invokestatic 91, 3) := by decide +kernel
theorem dX8_check_21 : decode cX8_check 21 = .ok (.ireturn, 1) := by decide +kernel
set_option maxRecDepth 20000 in
theorem ggX8_good_X5_isKind : GoodIn wsX8_good wsX5_isKind := goodIn_r _ [4, 5, 6, 7] (by decide +kernel) (by decide +kernel)
set_option maxRecDepth 20000 in
theorem gX8_good_X5_isKind : GoodIn wsX8_good (va_wsS RX8 81 yX5_isKind wsX5_isKind) := goodIn_app (goodIn_of _ (by decide +kernel)) ggX8_good_X5_isKind
set_option maxRecDepth 20000 in
theorem ggX8_good_X5_isNumber : GoodIn wsX8_good wsX5_isNumber := goodIn_r _ [10, 11] (by decide +kernel) (by decide +kernel)
set_option maxRecDepth 20000 in
theorem gX8_good_X5_isNumber : GoodIn wsX8_good (va_wsS RX8 87 yX5_isNumber wsX5_isNumber) := goodIn_app (goodIn_of _ (by decide +kernel)) ggX8_good_X5_isNumber
set_option maxRecDepth 20000 in
theorem ggX8_good_X5_isGood : GoodIn wsX8_good wsX5_isGood := goodIn_r _ [14, 15, 16, 17, 3, 18, 19, 20, 21] (by decide +kernel) (by decide +kernel)
set_option maxRecDepth 20000 in
theorem gX8_good_X5_isGood : GoodIn wsX8_good (va_wsS RX8 95 yX5_isGood wsX5_isGood) := goodIn_app (goodIn_of _ (by decide +kernel)) ggX8_good_X5_isGood
theorem dX8_good_0 : decode cX8_good 0 = .ok (.iload_n 1, 1) := by decide +kernel
theorem dX8_good_1 : decode cX8_good 1 = .ok (.invokestatic 81, 3) := by decide +kernel
theorem dX8_good_4 : decode cX8_good 4 = .ok (.ifCond .eq 22, 3) := by decide +kernel
theorem dX8_good_7 : decode cX8_good 7 = .ok (.lload_n 2, 1) := by decide +kernel
theorem dX8_good_8 : decode cX8_good 8 = .ok (.invokestatic 87, 3) := by decide +kernel
theorem dX8_good_11 : decode cX8_good 11 = .ok (.ifCond .eq 15, 3) := by decide +kernel
theorem dX8_good_14 : decode cX8_good 14 = .ok (.iload_n 1, 1) := by decide +kernel
theorem dX8_good_15 : decode cX8_good 15 = .ok (.lload_n 2, 1) := by decide +kernel
theorem dX8_good_16 : decode cX8_good 16 = .ok (.invokestatic 95, 3) := by decide +kernel
theorem dX8_good_19 : decode cX8_good 19 = .ok (.ifCond .eq 7, 3) := by decide +kernel
theorem dX8_good_22 : decode cX8_good 22 = .ok (.iconst 1, 1) := by decide +kernel
theorem dX8_good_23 : decode cX8_good 23 = .ok (.goto 4, 3) := by decide +kernel
theorem dX8_good_26 : decode cX8_good 26 = .ok (.iconst 0, 1) := by decide +kernel
theorem dX8_good_27 : decode cX8_good 27 = .ok (.ireturn, 1) := by decide +kernel
set_option maxRecDepth 20000 in
theorem ggX8_machine_X4_addMachine : GoodIn wsX8_machine wsX4_addMachine := goodIn_r _ [6, 7, 8, 9, 19, 20, 21, 22, 23] (by decide +kernel) (by decide +kernel)
set_option maxRecDepth 20000 in
theorem gX8_machine_X4_addMachine : GoodIn wsX8_machine (wsV RX8 99 RX4 yX4_addMachine wsX4_addMachine) := goodIn_app (goodIn_of _ (by decide +kernel)) ggX8_machine_X4_addMachine
theorem dX8_machine_0 : decode cX8_machine 0 = .ok (.aload_n 0, 1) := by decide +kernel
theorem dX8_machine_1 : decode cX8_machine 1 = .ok (.getfield 19, 3) := by decide +kernel
theorem dX8_machine_4 : decode cX8_machine 4 = .ok (.invokevirtual 99, 3) := by decide +kernel
theorem dX8_machine_7 : decode cX8_machine 7 = .ok (.ireturn, 1) := by decide +kernel
set_option maxRecDepth 20000 in
theorem ggX8_shape_X7_tell : GoodIn wsX8_shape wsX7_tell := goodIn_r _ [6, 7, 8, 9, 10, 11, 12, 13, 5, 14, 15, 16, 17, 27, 28, 29] (by decide +kernel) (by decide +kernel)
set_option maxRecDepth 20000 in
theorem gX8_shape_X7_tell : GoodIn wsX8_shape (wsV RX8 103 RX7 yX7_tell wsX7_tell) := goodIn_app (goodIn_of _ (by decide +kernel)) ggX8_shape_X7_tell
theorem dX8_shape_0 : decode cX8_shape 0 = .ok (.aload_n 0, 1) := by decide +kernel
theorem dX8_shape_1 : decode cX8_shape 1 = .ok (.getfield 26, 3) := by decide +kernel
theorem dX8_shape_4 : decode cX8_shape 4 = .ok (.iload_n 1, 1) := by decide +kernel
theorem dX8_shape_5 : decode cX8_shape 5 = .ok (.iload_n 2, 1) := by decide +kernel
theorem dX8_shape_6 : decode cX8_shape 6 = .ok (.iload_n 3, 1) := by decide +kernel
theorem dX8_shape_7 : decode cX8_shape 7 = .ok (.invokevirtual 103, 3) := by decide +kernel
theorem dX8_shape_10 : decode cX8_shape 10 = .ok (.ireturn, 1) := by decide +kernel
set_option maxRecDepth 20000 in
theorem ggX8_full_X4_setFull : GoodIn wsX8_full wsX4_setFull := goodIn_r _ [6, 7, 8, 9, 10, 5, 11, 12, 13, 14, 15, 25, 26, 27, 28, 29] (by decide +kernel) (by decide +kernel)
set_option maxRecDepth 20000 in
theorem gX8_full_X4_setFull : GoodIn wsX8_full (wsV RX8 107 RX4 yX4_setFull wsX4_setFull) := goodIn_app (goodIn_of _ (by decide +kernel)) ggX8_full_X4_setFull
theorem dX8_full_0 : decode cX8_full 0 = .ok (.aload_n 0, 1) := by decide +kernel
theorem dX8_full_1 : decode cX8_full 1 = .ok (.getfield 19, 3) := by decide +kernel
theorem dX8_full_4 : decode cX8_full 4 = .ok (.iload_n 1, 1) := by decide +kernel
theorem dX8_full_5 : decode cX8_full 5 = .ok (.iload_n 2, 1) := by decide +kernel
theorem dX8_full_6 : decode cX8_full 6 = .ok (.invokevirtual 107, 3) := by decide +kernel
theorem dX8_full_9 : decode cX8_full 9 = .ok (.ireturn, 1) := by decide +kernel
set_option maxRecDepth 20000 in
theorem ggX8_power_X4_setPower : GoodIn wsX8_power wsX4_setPower := goodIn_r _ [6, 7, 8, 9, 10, 5, 11, 12, 13, 14, 15, 25, 26, 27, 28, 29] (by decide +kernel) (by decide +kernel)
set_option maxRecDepth 20000 in
theorem gX8_power_X4_setPower : GoodIn wsX8_power (wsV RX8 111 RX4 yX4_setPower wsX4_setPower) := goodIn_app (goodIn_of _ (by decide +kernel)) ggX8_power_X4_setPower
theorem dX8_power_0 : decode cX8_power 0 = .ok (.aload_n 0, 1) := by decide +kernel
theorem dX8_power_1 : decode cX8_power 1 = .ok (.getfield 19, 3) := by decide +kernel
theorem dX8_power_4 : decode cX8_power 4 = .ok (.iload_n 1, 1) := by decide +kernel
theorem dX8_power_5 : decode cX8_power 5 = .ok (.iload_n 2, 1) := by decide +kernel
theorem dX8_power_6 : decode cX8_power 6 = .ok (.invokevirtual 111, 3) := by decide +kernel
theorem dX8_power_9 : decode cX8_power 9 = .ok (.ireturn, 1) := by decide +kernel
set_option maxRecDepth 20000 in
theorem ggX8_give_X5_isNumber : GoodIn wsX8_give wsX5_isNumber := goodIn_r _ [9, 10] (by decide +kernel) (by decide +kernel)
set_option maxRecDepth 20000 in
theorem gX8_give_X5_isNumber : GoodIn wsX8_give (va_wsS RX8 87 yX5_isNumber wsX5_isNumber) := goodIn_app (goodIn_of _ (by decide +kernel)) ggX8_give_X5_isNumber
set_option maxRecDepth 20000 in
theorem ggX8_give_X6_areAtLimit : GoodIn wsX8_give wsX6_areAtLimit := goodIn_r _ [15, 16, 118, 119, 120, 121, 122, 123, 124] (by decide +kernel) (by decide +kernel)
set_option maxRecDepth 20000 in
theorem gX8_give_X6_areAtLimit : GoodIn wsX8_give (wsV RX8 116 RX6 yX6_areAtLimit wsX6_areAtLimit) := goodIn_app (goodIn_of _ (by decide +kernel)) ggX8_give_X6_areAtLimit
set_option maxRecDepth 20000 in
theorem ggX8_give_X8_reasonToRefuse : GoodIn wsX8_give wsX8_reasonToRefuse := goodIn_r _ [21, 5, 22, 2, 23, 24, 25, 26, 27, 28, 29, 20, 30, 31, 32, 33, 34, 35, 36, 37, 38, 39, 40, 41, 42, 43, 44, 45, 46, 47, 48, 49, 50, 51, 52, 53, 54, 55, 56, 57, 58, 59, 60, 8, 61, 62, 63, 64, 65, 66, 67, 68, 69, 70, 71, 72, 73, 74, 75, 76, 14, 77, 16, 78, 79, 109, 110, 111, 112, 113, 114, 115, 116, 117, 125, 126, 127, 128, 129, 130, 131, 132, 118, 119, 120, 121, 122, 123, 124] (by decide +kernel) (by decide +kernel)
set_option maxRecDepth 20000 in
theorem gX8_give_X8_reasonToRefuse : GoodIn wsX8_give (wsV RX8 120 RX8 yX8_reasonToRefuse wsX8_reasonToRefuse) := goodIn_app (goodIn_of _ (by decide +kernel)) ggX8_give_X8_reasonToRefuse
set_option maxRecDepth 20000 in
theorem ggX8_give_X8_noteRefusal : GoodIn wsX8_give wsX8_noteRefusal := goodIn_r _ [83, 2, 84, 85, 86, 87, 14, 88, 16, 78, 89, 90, 91, 92, 93, 94, 95, 96, 109, 110, 111, 112, 113, 114, 115, 116, 117, 118, 119, 120, 121, 122, 123, 124, 133, 134] (by decide +kernel) (by decide +kernel)
set_option maxRecDepth 20000 in
theorem gX8_give_X8_noteRefusal : GoodIn wsX8_give (wsV RX8 124 RX8 yX8_noteRefusal wsX8_noteRefusal) := goodIn_app (goodIn_of _ (by decide +kernel)) ggX8_give_X8_noteRefusal
set_option maxRecDepth 20000 in
theorem ggX8_give_X4_setOf : GoodIn wsX8_give wsX4_setOf := goodIn_r _ [72, 73, 36, 24, 25, 26, 27, 28, 29, 20, 30, 125, 126, 127, 128, 129] (by decide +kernel) (by decide +kernel)
set_option maxRecDepth 20000 in
theorem gX8_give_X4_setOf : GoodIn wsX8_give (wsV RX8 130 RX4 yX4_setOf wsX4_setOf) := goodIn_app (goodIn_of _ (by decide +kernel)) ggX8_give_X4_setOf
set_option maxRecDepth 20000 in
theorem ggX8_give_X6_add : GoodIn wsX8_give wsX6_add := goodIn_r _ [100, 16, 78, 101, 79, 102, 103, 118, 119, 120, 121, 122, 123, 124] (by decide +kernel) (by decide +kernel)
set_option maxRecDepth 20000 in
theorem gX8_give_X6_add : GoodIn wsX8_give (wsV RX8 133 RX6 yX6_add wsX6_add) := goodIn_app (goodIn_of _ (by decide +kernel)) ggX8_give_X6_add
set_option maxRecDepth 20000 in
theorem ggX8_give_X4_addUnprinted : GoodIn wsX8_give wsX4_addUnprinted := goodIn_r _ [107, 108, 36, 24, 25, 26, 27, 28, 29, 20, 30, 125, 126, 127, 128, 129] (by decide +kernel) (by decide +kernel)
set_option maxRecDepth 20000 in
theorem gX8_give_X4_addUnprinted : GoodIn wsX8_give (wsV RX8 137 RX4 yX4_addUnprinted wsX4_addUnprinted) := goodIn_app (goodIn_of _ (by decide +kernel)) ggX8_give_X4_addUnprinted
theorem dX8_give_0 : decode cX8_give 0 = .ok (.lload_n 2, 1) := by decide +kernel
theorem dX8_give_1 : decode cX8_give 1 = .ok (.invokestatic 87, 3) := by decide +kernel
theorem dX8_give_4 : decode cX8_give 4 = .ok (.ifCond .eq 29, 3) := by decide +kernel
theorem dX8_give_7 : decode cX8_give 7 = .ok (.lload 6, 2) := by decide +kernel
theorem dX8_give_9 : decode cX8_give 9 = .ok (.lconst 0, 1) := by decide +kernel
theorem dX8_give_10 : decode cX8_give 10 = .ok (.lcmp, 1) := by decide +kernel
theorem dX8_give_11 : decode cX8_give 11 = .ok (.ifCond .lt 22, 3) := by decide +kernel
theorem dX8_give_14 : decode cX8_give 14 = .ok (.lload 6, 2) := by decide +kernel
theorem dX8_give_16 : decode cX8_give 16 = .ok (.ldc2_w 114, 3) := by decide +kernel
theorem dX8_give_19 : decode cX8_give 19 = .ok (.lcmp, 1) := by decide +kernel
theorem dX8_give_20 : decode cX8_give 20 = .ok (.ifCond .gt 13, 3) := by decide +kernel
theorem dX8_give_23 : decode cX8_give 23 = .ok (.aload_n 0, 1) := by decide +kernel
theorem dX8_give_24 : decode cX8_give 24 = .ok (.getfield 33, 3) := by decide +kernel
theorem dX8_give_27 : decode cX8_give 27 = .ok (.invokevirtual 116, 3) := by decide +kernel
theorem dX8_give_30 : decode cX8_give 30 = .ok (.ifCond .eq 5, 3) := by decide +kernel
theorem dX8_give_33 : decode cX8_give 33 = .ok (.iconst (-1), 1) := by decide +kernel
theorem dX8_give_34 : decode cX8_give 34 = .ok (.ireturn, 1) := by decide +kernel
theorem dX8_give_35 : decode cX8_give 35 = .ok (.aload_n 0, 1) := by decide +kernel
theorem dX8_give_36 : decode cX8_give 36 = .ok (.aload_n 0, 1) := by decide +kernel
theorem dX8_give_37 : decode cX8_give 37 = .ok (.iload_n 1, 1) := by decide +kernel
theorem dX8_give_38 : decode cX8_give 38 = .ok (.lload_n 2, 1) := by decide +kernel
theorem dX8_give_39 : decode cX8_give 39 = .ok (.iload 4, 2) := by decide +kernel
theorem dX8_give_41 : decode cX8_give 41 = .ok (.iload 5, 2) := by decide +kernel
theorem dX8_give_43 : decode cX8_give 43 = .ok (.invokevirtual 120, 3) := by decide +kernel
theorem dX8_give_46 : decode cX8_give 46 = .ok (.putfield 62, 3) := by decide +kernel
theorem dX8_give_49 : decode cX8_give 49 = .ok (.aload_n 0, 1) := by decide +kernel
theorem dX8_give_50 : decode cX8_give 50 = .ok (.getfield 62, 3) := by decide +kernel
theorem dX8_give_53 : decode cX8_give 53 = .ok (.bipush 7, 2) := by decide +kernel
theorem dX8_give_55 : decode cX8_give 55 = .ok (.if_icmp .ne 9, 3) := by decide +kernel
theorem dX8_give_58 : decode cX8_give 58 = .ok (.aload_n 0, 1) := by decide +kernel
theorem dX8_give_59 : decode cX8_give 59 = .ok (.iload_n 1, 1) := by decide +kernel
theorem dX8_give_60 : decode cX8_give 60 = .ok (.lload_n 2, 1) := by decide +kernel
theorem dX8_give_61 : decode cX8_give 61 = .ok (.invokevirtual 124, 3) := by decide +kernel
theorem dX8_give_64 : decode cX8_give 64 = .ok (.aload_n 0, 1) := by decide +kernel
theorem dX8_give_65 : decode cX8_give 65 = .ok (.getfield 62, 3) := by decide +kernel
theorem dX8_give_68 : decode cX8_give 68 = .ok (.ifCond .eq 5, 3) := by decide +kernel
theorem dX8_give_71 : decode cX8_give 71 = .ok (.iconst 0, 1) := by decide +kernel
theorem dX8_give_72 : decode cX8_give 72 = .ok (.ireturn, 1) := by decide +kernel
theorem dX8_give_73 : decode cX8_give 73 = .ok (.lload 6, 2) := by decide +kernel
theorem dX8_give_75 : decode cX8_give 75 = .ok (.ldc2_w 128, 3) := by decide +kernel
theorem dX8_give_78 : decode cX8_give 78 = .ok (.ldiv, 1) := by decide +kernel
theorem dX8_give_79 : decode cX8_give 79 = .ok (.l2i, 1) := by decide +kernel
theorem dX8_give_80 : decode cX8_give 80 = .ok (.istore 8, 2) := by decide +kernel
theorem dX8_give_82 : decode cX8_give 82 = .ok (.aload_n 0, 1) := by decide +kernel
theorem dX8_give_83 : decode cX8_give 83 = .ok (.getfield 33, 3) := by decide +kernel
theorem dX8_give_86 : decode cX8_give 86 = .ok (.lload_n 2, 1) := by decide +kernel
theorem dX8_give_87 : decode cX8_give 87 = .ok (.iload_n 1, 1) := by decide +kernel
theorem dX8_give_88 : decode cX8_give 88 = .ok (.aload_n 0, 1) := by decide +kernel
theorem dX8_give_89 : decode cX8_give 89 = .ok (.getfield 19, 3) := by decide +kernel
theorem dX8_give_92 : decode cX8_give 92 = .ok (.iload_n 1, 1) := by decide +kernel
theorem dX8_give_93 : decode cX8_give 93 = .ok (.invokevirtual 130, 3) := by decide +kernel
theorem dX8_give_96 : decode cX8_give 96 = .ok (.iload 4, 2) := by decide +kernel
theorem dX8_give_98 : decode cX8_give 98 = .ok (.iload 8, 2) := by decide +kernel
theorem dX8_give_100 : decode cX8_give 100 = .ok (.invokevirtual 133, 3) := by decide +kernel
theorem dX8_give_103 : decode cX8_give 103 = .ok (.aload_n 0, 1) := by decide +kernel
theorem dX8_give_104 : decode cX8_give 104 = .ok (.getfield 19, 3) := by decide +kernel
theorem dX8_give_107 : decode cX8_give 107 = .ok (.iload_n 1, 1) := by decide +kernel
theorem dX8_give_108 : decode cX8_give 108 = .ok (.invokevirtual 137, 3) := by decide +kernel
theorem dX8_give_111 : decode cX8_give 111 = .ok (.iconst 1, 1) := by decide +kernel
theorem dX8_give_112 : decode cX8_give 112 = .ok (.ireturn, 1) := by decide +kernel
theorem dX8_reason_0 : decode cX8_reason 0 = .ok (.aload_n 0, 1) := by decide +kernel
theorem dX8_reason_1 : decode cX8_reason 1 = .ok (.getfield 62, 3) := by decide +kernel
theorem dX8_reason_4 : decode cX8_reason 4 = .ok (.ireturn, 1) := by decide +kernel
set_option maxRecDepth 20000 in
theorem ggX8_count_X4_exists : GoodIn wsX8_count wsX4_exists := goodIn_r _ [9, 10, 11, 12, 13, 36, 37, 38, 39, 40] (by decide +kernel) (by decide +kernel)
set_option maxRecDepth 20000 in
theorem gX8_count_X4_exists : GoodIn wsX8_count (wsV RX8 141 RX4 yX4_exists wsX4_exists) := goodIn_app (goodIn_of _ (by decide +kernel)) ggX8_count_X4_exists
set_option maxRecDepth 20000 in
theorem ggX8_count_X7_exists : GoodIn wsX8_count wsX7_exists := goodIn_r _ [18, 11, 12, 13] (by decide +kernel) (by decide +kernel)
set_option maxRecDepth 20000 in
theorem gX8_count_X7_exists : GoodIn wsX8_count (wsV RX8 144 RX7 yX7_exists wsX7_exists) := goodIn_app (goodIn_of _ (by decide +kernel)) ggX8_count_X7_exists
set_option maxRecDepth 20000 in
theorem ggX8_count_X6_paidBy : GoodIn wsX8_count wsX6_paidBy := goodIn_r _ [23, 24, 25, 26, 41, 42, 43, 44, 45, 46, 47] (by decide +kernel) (by decide +kernel)
set_option maxRecDepth 20000 in
theorem gX8_count_X6_paidBy : GoodIn wsX8_count (wsV RX8 147 RX6 yX6_paidBy wsX6_paidBy) := goodIn_app (goodIn_of _ (by decide +kernel)) ggX8_count_X6_paidBy
theorem dX8_count_0 : decode cX8_count 0 = .ok (.aload_n 0, 1) := by decide +kernel
theorem dX8_count_1 : decode cX8_count 1 = .ok (.getfield 19, 3) := by decide +kernel
theorem dX8_count_4 : decode cX8_count 4 = .ok (.iload_n 1, 1) := by decide +kernel
theorem dX8_count_5 : decode cX8_count 5 = .ok (.invokevirtual 141, 3) := by decide +kernel
theorem dX8_count_8 : decode cX8_count 8 = .ok (.ifCond .eq 14, 3) := by decide +kernel
theorem dX8_count_11 : decode cX8_count 11 = .ok (.aload_n 0, 1) := by decide +kernel
theorem dX8_count_12 : decode cX8_count 12 = .ok (.getfield 26, 3) := by decide +kernel
theorem dX8_count_15 : decode cX8_count 15 = .ok (.iload_n 2, 1) := by decide +kernel
theorem dX8_count_16 : decode cX8_count 16 = .ok (.invokevirtual 144, 3) := by decide +kernel
theorem dX8_count_19 : decode cX8_count 19 = .ok (.ifCond .ne 7, 3) := by decide +kernel
theorem dX8_count_22 : decode cX8_count 22 = .ok (.ldc2_w 145, 3) := by decide +kernel
theorem dX8_count_25 : decode cX8_count 25 = .ok (.lreturn, 1) := by decide +kernel
theorem dX8_count_26 : decode cX8_count 26 = .ok (.aload_n 0, 1) := by decide +kernel
theorem dX8_count_27 : decode cX8_count 27 = .ok (.getfield 33, 3) := by decide +kernel
theorem dX8_count_30 : decode cX8_count 30 = .ok (.iload_n 1, 1) := by decide +kernel
theorem dX8_count_31 : decode cX8_count 31 = .ok (.iload_n 2, 1) := by decide +kernel
theorem dX8_count_32 : decode cX8_count 32 = .ok (.invokevirtual 147, 3) := by decide +kernel
theorem dX8_count_35 : decode cX8_count 35 = .ok (.i2l, 1) := by decide +kernel
theorem dX8_count_36 : decode cX8_count 36 = .ok (.lreturn, 1) := by decide +kernel
set_option maxRecDepth 20000 in
theorem ggX8_join_X4_exists : GoodIn wsX8_join wsX4_exists := goodIn_r _ [7, 8, 9, 10, 11, 83, 84, 85, 86, 87] (by decide +kernel) (by decide +kernel)
set_option maxRecDepth 20000 in
theorem gX8_join_X4_exists : GoodIn wsX8_join (wsV RX8 141 RX4 yX4_exists wsX4_exists) := goodIn_app (goodIn_of _ (by decide +kernel)) ggX8_join_X4_exists
set_option maxRecDepth 20000 in
theorem ggX8_join_X4_setOf : GoodIn wsX8_join wsX4_setOf := goodIn_r _ [15, 16, 17, 4, 5, 6, 7, 8, 9, 10, 11, 83, 84, 85, 86, 87] (by decide +kernel) (by decide +kernel)
set_option maxRecDepth 20000 in
theorem gX8_join_X4_setOf : GoodIn wsX8_join (wsV RX8 130 RX4 yX4_setOf wsX4_setOf) := goodIn_app (goodIn_of _ (by decide +kernel)) ggX8_join_X4_setOf
set_option maxRecDepth 20000 in
theorem ggX8_join_X8_tellDoubles : GoodIn wsX8_join wsX8_tellDoubles := goodIn_r _ [21, 22, 2, 23, 24, 25, 26, 27, 28, 29, 30, 31, 32, 33, 34, 35, 36, 37, 38, 39, 9, 10, 11, 40, 41, 42, 43, 44, 45, 46, 47, 48, 49, 50, 51, 52, 53, 54, 55, 56, 57, 58, 59, 60, 61, 62, 63, 64, 65, 74, 75, 76, 77, 78, 79, 80, 81, 82, 88, 89, 90, 91, 92, 93, 94, 95, 96, 97, 98] (by decide +kernel) (by decide +kernel)
set_option maxRecDepth 20000 in
theorem gX8_join_X8_tellDoubles : GoodIn wsX8_join (wsV RX8 151 RX8 yX8_tellDoubles wsX8_tellDoubles) := goodIn_app (goodIn_of _ (by decide +kernel)) ggX8_join_X8_tellDoubles
set_option maxRecDepth 20000 in
theorem ggX8_join_X6_moveSet : GoodIn wsX8_join wsX6_moveSet := goodIn_r _ [69, 34, 39, 92, 93, 94, 95, 96, 97, 98] (by decide +kernel) (by decide +kernel)
set_option maxRecDepth 20000 in
theorem gX8_join_X6_moveSet : GoodIn wsX8_join (wsV RX8 154 RX6 yX6_moveSet wsX6_moveSet) := goodIn_app (goodIn_of _ (by decide +kernel)) ggX8_join_X6_moveSet
set_option maxRecDepth 20000 in
theorem ggX8_join_X4_moveSet : GoodIn wsX8_join wsX4_moveSet := goodIn_r _ [73, 8, 16, 83, 84, 85, 86, 87] (by decide +kernel) (by decide +kernel)
set_option maxRecDepth 20000 in
theorem gX8_join_X4_moveSet : GoodIn wsX8_join (wsV RX8 158 RX4 yX4_moveSet wsX4_moveSet) := goodIn_app (goodIn_of _ (by decide +kernel)) ggX8_join_X4_moveSet
theorem dX8_join_0 : decode cX8_join 0 = .ok (.aload_n 0, 1) := by decide +kernel
theorem dX8_join_1 : decode cX8_join 1 = .ok (.getfield 19, 3) := by decide +kernel
theorem dX8_join_4 : decode cX8_join 4 = .ok (.iload_n 1, 1) := by decide +kernel
theorem dX8_join_5 : decode cX8_join 5 = .ok (.invokevirtual 141, 3) := by decide +kernel
theorem dX8_join_8 : decode cX8_join 8 = .ok (.ifCond .eq 14, 3) := by decide +kernel
theorem dX8_join_11 : decode cX8_join 11 = .ok (.aload_n 0, 1) := by decide +kernel
theorem dX8_join_12 : decode cX8_join 12 = .ok (.getfield 19, 3) := by decide +kernel
theorem dX8_join_15 : decode cX8_join 15 = .ok (.iload_n 2, 1) := by decide +kernel
theorem dX8_join_16 : decode cX8_join 16 = .ok (.invokevirtual 141, 3) := by decide +kernel
theorem dX8_join_19 : decode cX8_join 19 = .ok (.ifCond .ne 5, 3) := by decide +kernel
theorem dX8_join_22 : decode cX8_join 22 = .ok (.iconst (-1), 1) := by decide +kernel
theorem dX8_join_23 : decode cX8_join 23 = .ok (.ireturn, 1) := by decide +kernel
theorem dX8_join_24 : decode cX8_join 24 = .ok (.aload_n 0, 1) := by decide +kernel
theorem dX8_join_25 : decode cX8_join 25 = .ok (.getfield 19, 3) := by decide +kernel
theorem dX8_join_28 : decode cX8_join 28 = .ok (.iload_n 1, 1) := by decide +kernel
theorem dX8_join_29 : decode cX8_join 29 = .ok (.invokevirtual 130, 3) := by decide +kernel
theorem dX8_join_32 : decode cX8_join 32 = .ok (.istore_n 3, 1) := by decide +kernel
theorem dX8_join_33 : decode cX8_join 33 = .ok (.aload_n 0, 1) := by decide +kernel
theorem dX8_join_34 : decode cX8_join 34 = .ok (.getfield 19, 3) := by decide +kernel
theorem dX8_join_37 : decode cX8_join 37 = .ok (.iload_n 2, 1) := by decide +kernel
theorem dX8_join_38 : decode cX8_join 38 = .ok (.invokevirtual 130, 3) := by decide +kernel
theorem dX8_join_41 : decode cX8_join 41 = .ok (.istore 4, 2) := by decide +kernel
theorem dX8_join_43 : decode cX8_join 43 = .ok (.iload_n 3, 1) := by decide +kernel
theorem dX8_join_44 : decode cX8_join 44 = .ok (.iload 4, 2) := by decide +kernel
theorem dX8_join_46 : decode cX8_join 46 = .ok (.if_icmp .ne 5, 3) := by decide +kernel
theorem dX8_join_49 : decode cX8_join 49 = .ok (.iconst 0, 1) := by decide +kernel
theorem dX8_join_50 : decode cX8_join 50 = .ok (.ireturn, 1) := by decide +kernel
theorem dX8_join_51 : decode cX8_join 51 = .ok (.aload_n 0, 1) := by decide +kernel
theorem dX8_join_52 : decode cX8_join 52 = .ok (.iload_n 3, 1) := by decide +kernel
theorem dX8_join_53 : decode cX8_join 53 = .ok (.iload 4, 2) := by decide +kernel
theorem dX8_join_55 : decode cX8_join 55 = .ok (.invokevirtual 151, 3) := by decide +kernel
theorem dX8_join_58 : decode cX8_join 58 = .ok (.istore 5, 2) := by decide +kernel
theorem dX8_join_60 : decode cX8_join 60 = .ok (.aload_n 0, 1) := by decide +kernel
theorem dX8_join_61 : decode cX8_join 61 = .ok (.getfield 33, 3) := by decide +kernel
theorem dX8_join_64 : decode cX8_join 64 = .ok (.iload 4, 2) := by decide +kernel
theorem dX8_join_66 : decode cX8_join 66 = .ok (.iload_n 3, 1) := by decide +kernel
theorem dX8_join_67 : decode cX8_join 67 = .ok (.invokevirtual 154, 3) := by decide +kernel
theorem dX8_join_70 : decode cX8_join 70 = .ok (.aload_n 0, 1) := by decide +kernel
theorem dX8_join_71 : decode cX8_join 71 = .ok (.getfield 19, 3) := by decide +kernel
theorem dX8_join_74 : decode cX8_join 74 = .ok (.iload 4, 2) := by decide +kernel
theorem dX8_join_76 : decode cX8_join 76 = .ok (.iload_n 3, 1) := by decide +kernel
theorem dX8_join_77 : decode cX8_join 77 = .ok (.invokevirtual 158, 3) := by decide +kernel
theorem dX8_join_80 : decode cX8_join 80 = .ok (.iload 5, 2) := by decide +kernel
theorem dX8_join_82 : decode cX8_join 82 = .ok (.ireturn, 1) := by decide +kernel
set_option maxRecDepth 20000 in
theorem ggX8_double2_X2_part : GoodIn wsX8_double2 wsX2_part := goodIn_r _ [6, 7, 8, 9, 10, 11, 12, 13, 14, 15, 16, 17, 18, 19, 20, 21, 22, 32, 33, 34, 35] (by decide +kernel) (by decide +kernel)
set_option maxRecDepth 20000 in
theorem gX8_double2_X2_part : GoodIn wsX8_double2 (wsV RX8 159 RX2 yX2_part wsX2_part) := goodIn_app (goodIn_of _ (by decide +kernel)) ggX8_double2_X2_part
theorem dX8_double2_0 : decode cX8_double2 0 = .ok (.aload_n 0, 1) := by decide +kernel
theorem dX8_double2_1 : decode cX8_double2 1 = .ok (.getfield 40, 3) := by decide +kernel
theorem dX8_double2_4 : decode cX8_double2 4 = .ok (.iload_n 1, 1) := by decide +kernel
theorem dX8_double2_5 : decode cX8_double2 5 = .ok (.iload_n 2, 1) := by decide +kernel
theorem dX8_double2_6 : decode cX8_double2 6 = .ok (.invokevirtual 159, 3) := by decide +kernel
theorem dX8_double2_9 : decode cX8_double2 9 = .ok (.ireturn, 1) := by decide +kernel
set_option maxRecDepth 20000 in
theorem ggX8_mark_X5_isNumber : GoodIn wsX8_mark wsX5_isNumber := goodIn_r _ [8, 9] (by decide +kernel) (by decide +kernel)
set_option maxRecDepth 20000 in
theorem gX8_mark_X5_isNumber : GoodIn wsX8_mark (va_wsS RX8 87 yX5_isNumber wsX5_isNumber) := goodIn_app (goodIn_of _ (by decide +kernel)) ggX8_mark_X5_isNumber
theorem dX8_mark_0 : decode cX8_mark 0 = .ok (.lload_n 1, 1) := by decide +kernel
theorem dX8_mark_1 : decode cX8_mark 1 = .ok (.invokestatic 87, 3) := by decide +kernel
theorem dX8_mark_4 : decode cX8_mark 4 = .ok (.ifCond .eq 18, 3) := by decide +kernel
theorem dX8_mark_7 : decode cX8_mark 7 = .ok (.lload_n 3, 1) := by decide +kernel
theorem dX8_mark_8 : decode cX8_mark 8 = .ok (.invokestatic 87, 3) := by decide +kernel
theorem dX8_mark_11 : decode cX8_mark 11 = .ok (.ifCond .eq 11, 3) := by decide +kernel
theorem dX8_mark_14 : decode cX8_mark 14 = .ok (.lload 5, 2) := by decide +kernel
theorem dX8_mark_16 : decode cX8_mark 16 = .ok (.invokestatic 87, 3) := by decide +kernel
theorem dX8_mark_19 : decode cX8_mark 19 = .ok (.ifCond .ne 5, 3) := by decide +kernel
theorem dX8_mark_22 : decode cX8_mark 22 = .ok (.iconst 0, 1) := by decide +kernel
theorem dX8_mark_23 : decode cX8_mark 23 = .ok (.ireturn, 1) := by decide +kernel
theorem dX8_mark_24 : decode cX8_mark 24 = .ok (.lload_n 1, 1) := by decide +kernel
theorem dX8_mark_25 : decode cX8_mark 25 = .ok (.ldc2_w 162, 3) := by decide +kernel
theorem dX8_mark_28 : decode cX8_mark 28 = .ok (.lrem, 1) := by decide +kernel
theorem dX8_mark_29 : decode cX8_mark 29 = .ok (.lstore 7, 2) := by decide +kernel
theorem dX8_mark_31 : decode cX8_mark 31 = .ok (.lload_n 3, 1) := by decide +kernel
theorem dX8_mark_32 : decode cX8_mark 32 = .ok (.ldc2_w 162, 3) := by decide +kernel
theorem dX8_mark_35 : decode cX8_mark 35 = .ok (.lrem, 1) := by decide +kernel
theorem dX8_mark_36 : decode cX8_mark 36 = .ok (.lstore 9, 2) := by decide +kernel
theorem dX8_mark_38 : decode cX8_mark 38 = .ok (.lload 5, 2) := by decide +kernel
theorem dX8_mark_40 : decode cX8_mark 40 = .ok (.lload 7, 2) := by decide +kernel
theorem dX8_mark_42 : decode cX8_mark 42 = .ok (.ldc2_w 164, 3) := by decide +kernel
theorem dX8_mark_45 : decode cX8_mark 45 = .ok (.lload 9, 2) := by decide +kernel
theorem dX8_mark_47 : decode cX8_mark 47 = .ok (.lmul, 1) := by decide +kernel
theorem dX8_mark_48 : decode cX8_mark 48 = .ok (.ladd, 1) := by decide +kernel
theorem dX8_mark_49 : decode cX8_mark 49 = .ok (.lload 7, 2) := by decide +kernel
theorem dX8_mark_51 : decode cX8_mark 51 = .ok (.ldc2_w 166, 3) := by decide +kernel
theorem dX8_mark_54 : decode cX8_mark 54 = .ok (.lload 9, 2) := by decide +kernel
theorem dX8_mark_56 : decode cX8_mark 56 = .ok (.lmul, 1) := by decide +kernel
theorem dX8_mark_57 : decode cX8_mark 57 = .ok (.ladd, 1) := by decide +kernel
theorem dX8_mark_58 : decode cX8_mark 58 = .ok (.lconst 1, 1) := by decide +kernel
theorem dX8_mark_59 : decode cX8_mark 59 = .ok (.ladd, 1) := by decide +kernel
theorem dX8_mark_60 : decode cX8_mark 60 = .ok (.lmul, 1) := by decide +kernel
theorem dX8_mark_61 : decode cX8_mark 61 = .ok (.ldc2_w 168, 3) := by decide +kernel
theorem dX8_mark_64 : decode cX8_mark 64 = .ok (.lrem, 1) := by decide +kernel
theorem dX8_mark_65 : decode cX8_mark 65 = .ok (.lcmp, 1) := by decide +kernel
theorem dX8_mark_66 : decode cX8_mark 66 = .ok (.ifCond .ne 7, 3) := by decide +kernel
theorem dX8_mark_69 : decode cX8_mark 69 = .ok (.iconst 1, 1) := by decide +kernel
theorem dX8_mark_70 : decode cX8_mark 70 = .ok (.goto 4, 3) := by decide +kernel
theorem dX8_mark_73 : decode cX8_mark 73 = .ok (.iconst 0, 1) := by decide +kernel
theorem dX8_mark_74 : decode cX8_mark 74 = .ok (.ireturn, 1) := by decide +kernel
set_option maxRecDepth 20000 in
theorem ggX8_coupon_X4_hasPower : GoodIn wsX8_coupon wsX4_hasPower := goodIn_r _ [7, 8, 9, 10, 11, 6, 12, 13, 14, 15, 16, 38, 39, 40, 41, 42] (by decide +kernel) (by decide +kernel)
set_option maxRecDepth 20000 in
theorem gX8_coupon_X4_hasPower : GoodIn wsX8_coupon (wsV RX8 170 RX4 yX4_hasPower wsX4_hasPower) := goodIn_app (goodIn_of _ (by decide +kernel)) ggX8_coupon_X4_hasPower
set_option maxRecDepth 20000 in
theorem ggX8_coupon_X4_takeUnprinted : GoodIn wsX8_coupon wsX4_takeUnprinted := goodIn_r _ [20, 21, 9, 10, 11, 6, 12, 13, 14, 15, 16, 38, 39, 40, 41, 42] (by decide +kernel) (by decide +kernel)
set_option maxRecDepth 20000 in
theorem gX8_coupon_X4_takeUnprinted : GoodIn wsX8_coupon (wsV RX8 173 RX4 yX4_takeUnprinted wsX4_takeUnprinted) := goodIn_app (goodIn_of _ (by decide +kernel)) ggX8_coupon_X4_takeUnprinted
set_option maxRecDepth 20000 in
theorem ggX8_coupon_X1_print : GoodIn wsX8_coupon wsX1_print := goodIn_r _ [26, 27, 28, 43, 44, 45, 46] (by decide +kernel) (by decide +kernel)
set_option maxRecDepth 20000 in
theorem gX8_coupon_X1_print : GoodIn wsX8_coupon (wsV RX8 176 RX1 yX1_print wsX1_print) := goodIn_app (goodIn_of _ (by decide +kernel)) ggX8_coupon_X1_print
theorem dX8_coupon_0 : decode cX8_coupon 0 = .ok (.aload_n 0, 1) := by decide +kernel
theorem dX8_coupon_1 : decode cX8_coupon 1 = .ok (.getfield 19, 3) := by decide +kernel
theorem dX8_coupon_4 : decode cX8_coupon 4 = .ok (.iload_n 1, 1) := by decide +kernel
theorem dX8_coupon_5 : decode cX8_coupon 5 = .ok (.invokevirtual 170, 3) := by decide +kernel
theorem dX8_coupon_8 : decode cX8_coupon 8 = .ok (.ifCond .ne 5, 3) := by decide +kernel
theorem dX8_coupon_11 : decode cX8_coupon 11 = .ok (.iconst (-1), 1) := by decide +kernel
theorem dX8_coupon_12 : decode cX8_coupon 12 = .ok (.ireturn, 1) := by decide +kernel
theorem dX8_coupon_13 : decode cX8_coupon 13 = .ok (.aload_n 0, 1) := by decide +kernel
theorem dX8_coupon_14 : decode cX8_coupon 14 = .ok (.getfield 19, 3) := by decide +kernel
theorem dX8_coupon_17 : decode cX8_coupon 17 = .ok (.iload_n 1, 1) := by decide +kernel
theorem dX8_coupon_18 : decode cX8_coupon 18 = .ok (.invokevirtual 173, 3) := by decide +kernel
theorem dX8_coupon_21 : decode cX8_coupon 21 = .ok (.istore_n 2, 1) := by decide +kernel
theorem dX8_coupon_22 : decode cX8_coupon 22 = .ok (.iload_n 2, 1) := by decide +kernel
theorem dX8_coupon_23 : decode cX8_coupon 23 = .ok (.ifCond .ne 7, 3) := by decide +kernel
theorem dX8_coupon_26 : decode cX8_coupon 26 = .ok (.iconst (-1), 1) := by decide +kernel
theorem dX8_coupon_27 : decode cX8_coupon 27 = .ok (.goto 14, 3) := by decide +kernel
theorem dX8_coupon_30 : decode cX8_coupon 30 = .ok (.aload_n 0, 1) := by decide +kernel
theorem dX8_coupon_31 : decode cX8_coupon 31 = .ok (.getfield 47, 3) := by decide +kernel
theorem dX8_coupon_34 : decode cX8_coupon 34 = .ok (.iload_n 2, 1) := by decide +kernel
theorem dX8_coupon_35 : decode cX8_coupon 35 = .ok (.bipush 25, 2) := by decide +kernel
theorem dX8_coupon_37 : decode cX8_coupon 37 = .ok (.imul, 1) := by decide +kernel
theorem dX8_coupon_38 : decode cX8_coupon 38 = .ok (.invokevirtual 176, 3) := by decide +kernel
theorem dX8_coupon_41 : decode cX8_coupon 41 = .ok (.ireturn, 1) := by decide +kernel
set_option maxRecDepth 20000 in
theorem ggX8_redeem_X1_redeemAt : GoodIn wsX8_redeem wsX1_redeemAt := goodIn_r _ [6, 7, 8, 9, 10, 11, 12, 13, 23, 24, 25, 26] (by decide +kernel) (by decide +kernel)
set_option maxRecDepth 20000 in
theorem gX8_redeem_X1_redeemAt : GoodIn wsX8_redeem (wsV RX8 179 RX1 yX1_redeemAt wsX1_redeemAt) := goodIn_app (goodIn_of _ (by decide +kernel)) ggX8_redeem_X1_redeemAt
theorem dX8_redeem_0 : decode cX8_redeem 0 = .ok (.aload_n 0, 1) := by decide +kernel
theorem dX8_redeem_1 : decode cX8_redeem 1 = .ok (.getfield 47, 3) := by decide +kernel
theorem dX8_redeem_4 : decode cX8_redeem 4 = .ok (.iload_n 1, 1) := by decide +kernel
theorem dX8_redeem_5 : decode cX8_redeem 5 = .ok (.iload_n 2, 1) := by decide +kernel
theorem dX8_redeem_6 : decode cX8_redeem 6 = .ok (.invokevirtual 179, 3) := by decide +kernel
theorem dX8_redeem_9 : decode cX8_redeem 9 = .ok (.ireturn, 1) := by decide +kernel
set_option maxRecDepth 20000 in
theorem ggX8_shop_X1_redeemedBy : GoodIn wsX8_shop wsX1_redeemedBy := goodIn_r _ [6, 7, 8, 9, 10, 11, 21, 22, 23, 24] (by decide +kernel) (by decide +kernel)
set_option maxRecDepth 20000 in
theorem gX8_shop_X1_redeemedBy : GoodIn wsX8_shop (wsV RX8 182 RX1 yX1_redeemedBy wsX1_redeemedBy) := goodIn_app (goodIn_of _ (by decide +kernel)) ggX8_shop_X1_redeemedBy
theorem dX8_shop_0 : decode cX8_shop 0 = .ok (.aload_n 0, 1) := by decide +kernel
theorem dX8_shop_1 : decode cX8_shop 1 = .ok (.getfield 47, 3) := by decide +kernel
theorem dX8_shop_4 : decode cX8_shop 4 = .ok (.iload_n 1, 1) := by decide +kernel
theorem dX8_shop_5 : decode cX8_shop 5 = .ok (.invokevirtual 182, 3) := by decide +kernel
theorem dX8_shop_8 : decode cX8_shop 8 = .ok (.lreturn, 1) := by decide +kernel
set_option maxRecDepth 20000 in
theorem ggX8_clear_X6_balance : GoodIn wsX8_clear wsX6_balance := goodIn_r _ [8, 9, 10, 11, 12, 13, 14, 7, 15, 16, 17, 18, 19, 20, 21, 22, 23, 24, 34, 35, 36, 37, 38, 39, 40] (by decide +kernel) (by decide +kernel)
set_option maxRecDepth 20000 in
theorem gX8_clear_X6_balance : GoodIn wsX8_clear (wsV RX8 187 RX6 yX6_balance wsX6_balance) := goodIn_app (goodIn_of _ (by decide +kernel)) ggX8_clear_X6_balance
theorem dX8_clear_0 : decode cX8_clear 0 = .ok (.iload_n 1, 1) := by decide +kernel
theorem dX8_clear_1 : decode cX8_clear 1 = .ok (.ifCond .lt 9, 3) := by decide +kernel
theorem dX8_clear_4 : decode cX8_clear 4 = .ok (.iload_n 1, 1) := by decide +kernel
theorem dX8_clear_5 : decode cX8_clear 5 = .ok (.ldc 186, 2) := by decide +kernel
theorem dX8_clear_7 : decode cX8_clear 7 = .ok (.if_icmp .le 5, 3) := by decide +kernel
theorem dX8_clear_10 : decode cX8_clear 10 = .ok (.iconst (-1), 1) := by decide +kernel
theorem dX8_clear_11 : decode cX8_clear 11 = .ok (.ireturn, 1) := by decide +kernel
theorem dX8_clear_12 : decode cX8_clear 12 = .ok (.aload_n 0, 1) := by decide +kernel
theorem dX8_clear_13 : decode cX8_clear 13 = .ok (.getfield 33, 3) := by decide +kernel
theorem dX8_clear_16 : decode cX8_clear 16 = .ok (.iload_n 1, 1) := by decide +kernel
theorem dX8_clear_17 : decode cX8_clear 17 = .ok (.aload_n 0, 1) := by decide +kernel
theorem dX8_clear_18 : decode cX8_clear 18 = .ok (.getfield 58, 3) := by decide +kernel
theorem dX8_clear_21 : decode cX8_clear 21 = .ok (.invokevirtual 187, 3) := by decide +kernel
theorem dX8_clear_24 : decode cX8_clear 24 = .ok (.iconst 0, 1) := by decide +kernel
theorem dX8_clear_25 : decode cX8_clear 25 = .ok (.istore_n 2, 1) := by decide +kernel
theorem dX8_clear_26 : decode cX8_clear 26 = .ok (.iconst 0, 1) := by decide +kernel
theorem dX8_clear_27 : decode cX8_clear 27 = .ok (.istore_n 3, 1) := by decide +kernel
theorem dX8_clear_28 : decode cX8_clear 28 = .ok (.iload_n 3, 1) := by decide +kernel
theorem dX8_clear_29 : decode cX8_clear 29 = .ok (.aload_n 0, 1) := by decide +kernel
theorem dX8_clear_30 : decode cX8_clear 30 = .ok (.getfield 58, 3) := by decide +kernel
theorem dX8_clear_33 : decode cX8_clear 33 = .ok (.arraylength, 1) := by decide +kernel
theorem dX8_clear_34 : decode cX8_clear 34 = .ok (.if_icmp .ge 23, 3) := by decide +kernel
theorem dX8_clear_37 : decode cX8_clear 37 = .ok (.aload_n 0, 1) := by decide +kernel
theorem dX8_clear_38 : decode cX8_clear 38 = .ok (.getfield 58, 3) := by decide +kernel
theorem dX8_clear_41 : decode cX8_clear 41 = .ok (.iload_n 3, 1) := by decide +kernel
theorem dX8_clear_42 : decode cX8_clear 42 = .ok (.laload, 1) := by decide +kernel
theorem dX8_clear_43 : decode cX8_clear 43 = .ok (.lconst 0, 1) := by decide +kernel
theorem dX8_clear_44 : decode cX8_clear 44 = .ok (.lcmp, 1) := by decide +kernel
theorem dX8_clear_45 : decode cX8_clear 45 = .ok (.ifCond .eq 6, 3) := by decide +kernel
theorem dX8_clear_48 : decode cX8_clear 48 = .ok (.iinc 2 1, 3) := by decide +kernel
theorem dX8_clear_51 : decode cX8_clear 51 = .ok (.iinc 3 1, 3) := by decide +kernel
theorem dX8_clear_54 : decode cX8_clear 54 = .ok (.goto (-26), 3) := by decide +kernel
theorem dX8_clear_57 : decode cX8_clear 57 = .ok (.iload_n 2, 1) := by decide +kernel
theorem dX8_clear_58 : decode cX8_clear 58 = .ok (.ireturn, 1) := by decide +kernel
set_option maxRecDepth 20000 in
theorem ggX8_cleared_X8_isIndex : GoodIn wsX8_cleared wsX8_isIndex := goodIn_r _ [5] (by decide +kernel) (by decide +kernel)
set_option maxRecDepth 20000 in
theorem gX8_cleared_X8_isIndex : GoodIn wsX8_cleared (va_wsS RX8 191 yX8_isIndex wsX8_isIndex) := goodIn_app (goodIn_of _ (by decide +kernel)) ggX8_cleared_X8_isIndex
theorem dX8_cleared_0 : decode cX8_cleared 0 = .ok (.iload_n 1, 1) := by decide +kernel
theorem dX8_cleared_1 : decode cX8_cleared 1 = .ok (.aload_n 0, 1) := by decide +kernel
theorem dX8_cleared_2 : decode cX8_cleared 2 = .ok (.getfield 58, 3) := by decide +kernel
theorem dX8_cleared_5 : decode cX8_cleared 5 = .ok (.arraylength, 1) := by decide +kernel
theorem dX8_cleared_6 : decode cX8_cleared 6 = .ok (.invokestatic 191, 3) := by decide +kernel
theorem dX8_cleared_9 : decode cX8_cleared 9 = .ok (.ifCond .eq 12, 3) := by decide +kernel
theorem dX8_cleared_12 : decode cX8_cleared 12 = .ok (.aload_n 0, 1) := by decide +kernel
theorem dX8_cleared_13 : decode cX8_cleared 13 = .ok (.getfield 58, 3) := by decide +kernel
theorem dX8_cleared_16 : decode cX8_cleared 16 = .ok (.iload_n 1, 1) := by decide +kernel
theorem dX8_cleared_17 : decode cX8_cleared 17 = .ok (.laload, 1) := by decide +kernel
theorem dX8_cleared_18 : decode cX8_cleared 18 = .ok (.goto 4, 3) := by decide +kernel
theorem dX8_cleared_21 : decode cX8_cleared 21 = .ok (.lconst 0, 1) := by decide +kernel
theorem dX8_cleared_22 : decode cX8_cleared 22 = .ok (.lreturn, 1) := by decide +kernel
set_option maxRecDepth 20000 in
theorem ggX8_fraud_X3_machineOf : GoodIn wsX8_fraud wsX3_machineOf := goodIn_r _ [6, 7, 8, 9, 10, 11, 21, 22] (by decide +kernel) (by decide +kernel)
set_option maxRecDepth 20000 in
theorem gX8_fraud_X3_machineOf : GoodIn wsX8_fraud (wsV RX8 194 RX3 yX3_machineOf wsX3_machineOf) := goodIn_app (goodIn_of _ (by decide +kernel)) ggX8_fraud_X3_machineOf
theorem dX8_fraud_0 : decode cX8_fraud 0 = .ok (.aload_n 0, 1) := by decide +kernel
theorem dX8_fraud_1 : decode cX8_fraud 1 = .ok (.getfield 54, 3) := by decide +kernel
theorem dX8_fraud_4 : decode cX8_fraud 4 = .ok (.iload_n 1, 1) := by decide +kernel
theorem dX8_fraud_5 : decode cX8_fraud 5 = .ok (.invokevirtual 194, 3) := by decide +kernel
theorem dX8_fraud_8 : decode cX8_fraud 8 = .ok (.ireturn, 1) := by decide +kernel
set_option maxRecDepth 20000 in
theorem ggX8_reasonToRefuse_X4_exists : GoodIn wsX8_reasonToRefuse wsX4_exists := goodIn_r _ [8, 9, 10, 11, 12, 74, 75, 76, 77, 78] (by decide +kernel) (by decide +kernel)
set_option maxRecDepth 20000 in
theorem gX8_reasonToRefuse_X4_exists : GoodIn wsX8_reasonToRefuse (wsV RX8 141 RX4 yX4_exists wsX4_exists) := goodIn_app (goodIn_of _ (by decide +kernel)) ggX8_reasonToRefuse_X4_exists
set_option maxRecDepth 20000 in
theorem ggX8_reasonToRefuse_X4_isFull : GoodIn wsX8_reasonToRefuse wsX4_isFull := goodIn_r _ [16, 17, 18, 5, 6, 7, 8, 9, 10, 11, 12, 74, 75, 76, 77, 78] (by decide +kernel) (by decide +kernel)
set_option maxRecDepth 20000 in
theorem gX8_reasonToRefuse_X4_isFull : GoodIn wsX8_reasonToRefuse (wsV RX8 197 RX4 yX4_isFull wsX4_isFull) := goodIn_app (goodIn_of _ (by decide +kernel)) ggX8_reasonToRefuse_X4_isFull
set_option maxRecDepth 20000 in
theorem ggX8_reasonToRefuse_X4_hasPower : GoodIn wsX8_reasonToRefuse wsX4_hasPower := goodIn_r _ [22, 23, 18, 5, 6, 7, 8, 9, 10, 11, 12, 74, 75, 76, 77, 78] (by decide +kernel) (by decide +kernel)
set_option maxRecDepth 20000 in
theorem gX8_reasonToRefuse_X4_hasPower : GoodIn wsX8_reasonToRefuse (wsV RX8 170 RX4 yX4_hasPower wsX4_hasPower) := goodIn_app (goodIn_of _ (by decide +kernel)) ggX8_reasonToRefuse_X4_hasPower
set_option maxRecDepth 20000 in
theorem ggX8_reasonToRefuse_X7_isTold : GoodIn wsX8_reasonToRefuse wsX7_isTold := goodIn_r _ [28, 29, 30, 31, 32, 27, 33, 10, 11, 12, 79, 80, 81] (by decide +kernel) (by decide +kernel)
set_option maxRecDepth 20000 in
theorem gX8_reasonToRefuse_X7_isTold : GoodIn wsX8_reasonToRefuse (wsV RX8 200 RX7 yX7_isTold wsX7_isTold) := goodIn_app (goodIn_of _ (by decide +kernel)) ggX8_reasonToRefuse_X7_isTold
set_option maxRecDepth 20000 in
theorem ggX8_reasonToRefuse_X7_holds : GoodIn wsX8_reasonToRefuse wsX7_holds := goodIn_r _ [37, 38, 39, 40, 25, 26, 27, 28, 29, 30, 31, 32, 33, 10, 11, 12, 79, 80, 81] (by decide +kernel) (by decide +kernel)
set_option maxRecDepth 20000 in
theorem gX8_reasonToRefuse_X7_holds : GoodIn wsX8_reasonToRefuse (wsV RX8 203 RX7 yX7_holds wsX7_holds) := goodIn_app (goodIn_of _ (by decide +kernel)) ggX8_reasonToRefuse_X7_holds
set_option maxRecDepth 20000 in
theorem ggX8_reasonToRefuse_X5_isGood : GoodIn wsX8_reasonToRefuse wsX5_isGood := goodIn_r _ [44, 45, 46, 47, 43, 48, 49, 50, 51] (by decide +kernel) (by decide +kernel)
set_option maxRecDepth 20000 in
theorem gX8_reasonToRefuse_X5_isGood : GoodIn wsX8_reasonToRefuse (va_wsS RX8 95 yX5_isGood wsX5_isGood) := goodIn_app (goodIn_of _ (by decide +kernel)) ggX8_reasonToRefuse_X5_isGood
set_option maxRecDepth 20000 in
theorem ggX8_reasonToRefuse_X4_setOf : GoodIn wsX8_reasonToRefuse wsX4_setOf := goodIn_r _ [55, 56, 18, 5, 6, 7, 8, 9, 10, 11, 12, 74, 75, 76, 77, 78] (by decide +kernel) (by decide +kernel)
set_option maxRecDepth 20000 in
theorem gX8_reasonToRefuse_X4_setOf : GoodIn wsX8_reasonToRefuse (wsV RX8 130 RX4 yX4_setOf wsX4_setOf) := goodIn_app (goodIn_of _ (by decide +kernel)) ggX8_reasonToRefuse_X4_setOf
set_option maxRecDepth 20000 in
theorem ggX8_reasonToRefuse_X6_find : GoodIn wsX8_reasonToRefuse wsX6_find := goodIn_r _ [61, 62, 63, 64, 82, 83, 84, 85, 86, 87, 88] (by decide +kernel) (by decide +kernel)
set_option maxRecDepth 20000 in
theorem gX8_reasonToRefuse_X6_find : GoodIn wsX8_reasonToRefuse (wsV RX8 206 RX6 yX6_find wsX6_find) := goodIn_app (goodIn_of _ (by decide +kernel)) ggX8_reasonToRefuse_X6_find
theorem dX8_reasonToRefuse_0 : decode cX8_reasonToRefuse 0 = .ok (.aload_n 0, 1) := by decide +kernel
theorem dX8_reasonToRefuse_1 : decode cX8_reasonToRefuse 1 = .ok (.getfield 19, 3) := by decide +kernel
theorem dX8_reasonToRefuse_4 : decode cX8_reasonToRefuse 4 = .ok (.iload_n 1, 1) := by decide +kernel
theorem dX8_reasonToRefuse_5 : decode cX8_reasonToRefuse 5 = .ok (.invokevirtual 141, 3) := by decide +kernel
theorem dX8_reasonToRefuse_8 : decode cX8_reasonToRefuse 8 = .ok (.ifCond .ne 5, 3) := by decide +kernel
theorem dX8_reasonToRefuse_11 : decode cX8_reasonToRefuse 11 = .ok (.iconst 1, 1) := by decide +kernel
theorem dX8_reasonToRefuse_12 : decode cX8_reasonToRefuse 12 = .ok (.ireturn, 1) := by decide +kernel
theorem dX8_reasonToRefuse_13 : decode cX8_reasonToRefuse 13 = .ok (.aload_n 0, 1) := by decide +kernel
theorem dX8_reasonToRefuse_14 : decode cX8_reasonToRefuse 14 = .ok (.getfield 19, 3) := by decide +kernel
theorem dX8_reasonToRefuse_17 : decode cX8_reasonToRefuse 17 = .ok (.iload_n 1, 1) := by decide +kernel
theorem dX8_reasonToRefuse_18 : decode cX8_reasonToRefuse 18 = .ok (.invokevirtual 197, 3) := by decide +kernel
theorem dX8_reasonToRefuse_21 : decode cX8_reasonToRefuse 21 = .ok (.ifCond .eq 5, 3) := by decide +kernel
theorem dX8_reasonToRefuse_24 : decode cX8_reasonToRefuse 24 = .ok (.iconst 2, 1) := by decide +kernel
theorem dX8_reasonToRefuse_25 : decode cX8_reasonToRefuse 25 = .ok (.ireturn, 1) := by decide +kernel
theorem dX8_reasonToRefuse_26 : decode cX8_reasonToRefuse 26 = .ok (.aload_n 0, 1) := by decide +kernel
theorem dX8_reasonToRefuse_27 : decode cX8_reasonToRefuse 27 = .ok (.getfield 19, 3) := by decide +kernel
theorem dX8_reasonToRefuse_30 : decode cX8_reasonToRefuse 30 = .ok (.iload_n 1, 1) := by decide +kernel
theorem dX8_reasonToRefuse_31 : decode cX8_reasonToRefuse 31 = .ok (.invokevirtual 170, 3) := by decide +kernel
theorem dX8_reasonToRefuse_34 : decode cX8_reasonToRefuse 34 = .ok (.ifCond .ne 5, 3) := by decide +kernel
theorem dX8_reasonToRefuse_37 : decode cX8_reasonToRefuse 37 = .ok (.iconst 3, 1) := by decide +kernel
theorem dX8_reasonToRefuse_38 : decode cX8_reasonToRefuse 38 = .ok (.ireturn, 1) := by decide +kernel
theorem dX8_reasonToRefuse_39 : decode cX8_reasonToRefuse 39 = .ok (.aload_n 0, 1) := by decide +kernel
theorem dX8_reasonToRefuse_40 : decode cX8_reasonToRefuse 40 = .ok (.getfield 26, 3) := by decide +kernel
theorem dX8_reasonToRefuse_43 : decode cX8_reasonToRefuse 43 = .ok (.iload 4, 2) := by decide +kernel
theorem dX8_reasonToRefuse_45 : decode cX8_reasonToRefuse 45 = .ok (.invokevirtual 200, 3) := by decide +kernel
theorem dX8_reasonToRefuse_48 : decode cX8_reasonToRefuse 48 = .ok (.ifCond .ne 5, 3) := by decide +kernel
theorem dX8_reasonToRefuse_51 : decode cX8_reasonToRefuse 51 = .ok (.iconst 4, 1) := by decide +kernel
theorem dX8_reasonToRefuse_52 : decode cX8_reasonToRefuse 52 = .ok (.ireturn, 1) := by decide +kernel
theorem dX8_reasonToRefuse_53 : decode cX8_reasonToRefuse 53 = .ok (.aload_n 0, 1) := by decide +kernel
theorem dX8_reasonToRefuse_54 : decode cX8_reasonToRefuse 54 = .ok (.getfield 26, 3) := by decide +kernel
theorem dX8_reasonToRefuse_57 : decode cX8_reasonToRefuse 57 = .ok (.iload 4, 2) := by decide +kernel
theorem dX8_reasonToRefuse_59 : decode cX8_reasonToRefuse 59 = .ok (.iload 5, 2) := by decide +kernel
theorem dX8_reasonToRefuse_61 : decode cX8_reasonToRefuse 61 = .ok (.invokevirtual 203, 3) := by decide +kernel
theorem dX8_reasonToRefuse_64 : decode cX8_reasonToRefuse 64 = .ok (.ifCond .ne 5, 3) := by decide +kernel
theorem dX8_reasonToRefuse_67 : decode cX8_reasonToRefuse 67 = .ok (.iconst 5, 1) := by decide +kernel
theorem dX8_reasonToRefuse_68 : decode cX8_reasonToRefuse 68 = .ok (.ireturn, 1) := by decide +kernel
theorem dX8_reasonToRefuse_69 : decode cX8_reasonToRefuse 69 = .ok (.iconst 0, 1) := by decide +kernel
theorem dX8_reasonToRefuse_70 : decode cX8_reasonToRefuse 70 = .ok (.lload_n 2, 1) := by decide +kernel
theorem dX8_reasonToRefuse_71 : decode cX8_reasonToRefuse 71 = .ok (.invokestatic 95, 3) := by decide +kernel
theorem dX8_reasonToRefuse_74 : decode cX8_reasonToRefuse 74 = .ok (.ifCond .ne 6, 3) := by decide +kernel
theorem dX8_reasonToRefuse_77 : decode cX8_reasonToRefuse 77 = .ok (.bipush 6, 2) := by decide +kernel
theorem dX8_reasonToRefuse_79 : decode cX8_reasonToRefuse 79 = .ok (.ireturn, 1) := by decide +kernel
theorem dX8_reasonToRefuse_80 : decode cX8_reasonToRefuse 80 = .ok (.aload_n 0, 1) := by decide +kernel
theorem dX8_reasonToRefuse_81 : decode cX8_reasonToRefuse 81 = .ok (.getfield 33, 3) := by decide +kernel
theorem dX8_reasonToRefuse_84 : decode cX8_reasonToRefuse 84 = .ok (.lload_n 2, 1) := by decide +kernel
theorem dX8_reasonToRefuse_85 : decode cX8_reasonToRefuse 85 = .ok (.aload_n 0, 1) := by decide +kernel
theorem dX8_reasonToRefuse_86 : decode cX8_reasonToRefuse 86 = .ok (.getfield 19, 3) := by decide +kernel
theorem dX8_reasonToRefuse_89 : decode cX8_reasonToRefuse 89 = .ok (.iload_n 1, 1) := by decide +kernel
theorem dX8_reasonToRefuse_90 : decode cX8_reasonToRefuse 90 = .ok (.invokevirtual 130, 3) := by decide +kernel
theorem dX8_reasonToRefuse_93 : decode cX8_reasonToRefuse 93 = .ok (.invokevirtual 206, 3) := by decide +kernel
theorem dX8_reasonToRefuse_96 : decode cX8_reasonToRefuse 96 = .ok (.iconst (-1), 1) := by decide +kernel
theorem dX8_reasonToRefuse_97 : decode cX8_reasonToRefuse 97 = .ok (.if_icmp .ne 7, 3) := by decide +kernel
theorem dX8_reasonToRefuse_100 : decode cX8_reasonToRefuse 100 = .ok (.iconst 0, 1) := by decide +kernel
theorem dX8_reasonToRefuse_101 : decode cX8_reasonToRefuse 101 = .ok (.goto 5, 3) := by decide +kernel
theorem dX8_reasonToRefuse_104 : decode cX8_reasonToRefuse 104 = .ok (.bipush 7, 2) := by decide +kernel
theorem dX8_reasonToRefuse_106 : decode cX8_reasonToRefuse 106 = .ok (.ireturn, 1) := by decide +kernel
set_option maxRecDepth 20000 in
theorem ggX8_noteRefusal_X6_addRefusal : GoodIn wsX8_noteRefusal wsX6_addRefusal := goodIn_r _ [7, 8, 9, 10, 27, 28, 29, 30, 31, 32, 33] (by decide +kernel) (by decide +kernel)
set_option maxRecDepth 20000 in
theorem gX8_noteRefusal_X6_addRefusal : GoodIn wsX8_noteRefusal (wsV RX8 210 RX6 yX6_addRefusal wsX6_addRefusal) := goodIn_app (goodIn_of _ (by decide +kernel)) ggX8_noteRefusal_X6_addRefusal
set_option maxRecDepth 20000 in
theorem ggX8_noteRefusal_X3_add : GoodIn wsX8_noteRefusal wsX3_add := goodIn_r _ [15, 16, 17, 34, 35] (by decide +kernel) (by decide +kernel)
set_option maxRecDepth 20000 in
theorem gX8_noteRefusal_X3_add : GoodIn wsX8_noteRefusal (wsV RX8 214 RX3 yX3_add wsX3_add) := goodIn_app (goodIn_of _ (by decide +kernel)) ggX8_noteRefusal_X3_add
theorem dX8_noteRefusal_0 : decode cX8_noteRefusal 0 = .ok (.aload_n 0, 1) := by decide +kernel
theorem dX8_noteRefusal_1 : decode cX8_noteRefusal 1 = .ok (.getfield 33, 3) := by decide +kernel
theorem dX8_noteRefusal_4 : decode cX8_noteRefusal 4 = .ok (.lload_n 2, 1) := by decide +kernel
theorem dX8_noteRefusal_5 : decode cX8_noteRefusal 5 = .ok (.invokevirtual 210, 3) := by decide +kernel
theorem dX8_noteRefusal_8 : decode cX8_noteRefusal 8 = .ok (.iconst 3, 1) := by decide +kernel
theorem dX8_noteRefusal_9 : decode cX8_noteRefusal 9 = .ok (.irem, 1) := by decide +kernel
theorem dX8_noteRefusal_10 : decode cX8_noteRefusal 10 = .ok (.ifCond .ne 11, 3) := by decide +kernel
theorem dX8_noteRefusal_13 : decode cX8_noteRefusal 13 = .ok (.aload_n 0, 1) := by decide +kernel
theorem dX8_noteRefusal_14 : decode cX8_noteRefusal 14 = .ok (.getfield 54, 3) := by decide +kernel
theorem dX8_noteRefusal_17 : decode cX8_noteRefusal 17 = .ok (.iload_n 1, 1) := by decide +kernel
theorem dX8_noteRefusal_18 : decode cX8_noteRefusal 18 = .ok (.invokevirtual 214, 3) := by decide +kernel
theorem dX8_noteRefusal_21 : decode cX8_noteRefusal 21 = .ok (.return_, 1) := by decide +kernel
set_option maxRecDepth 20000 in
theorem ggX8_tellDoubles_X2_size : GoodIn wsX8_tellDoubles wsX2_size := goodIn_r _ [7, 8, 58, 59, 60, 61] (by decide +kernel) (by decide +kernel)
set_option maxRecDepth 20000 in
theorem gX8_tellDoubles_X2_size : GoodIn wsX8_tellDoubles (wsV RX8 216 RX2 yX2_size wsX2_size) := goodIn_app (goodIn_of _ (by decide +kernel)) ggX8_tellDoubles_X2_size
set_option maxRecDepth 20000 in
theorem ggX8_tellDoubles_X6_size : GoodIn wsX8_tellDoubles wsX6_size := goodIn_r _ [13, 14, 62, 63, 64, 65, 66, 67, 68] (by decide +kernel) (by decide +kernel)
set_option maxRecDepth 20000 in
theorem gX8_tellDoubles_X6_size : GoodIn wsX8_tellDoubles (wsV RX8 219 RX6 yX6_size wsX6_size) := goodIn_app (goodIn_of _ (by decide +kernel)) ggX8_tellDoubles_X6_size
set_option maxRecDepth 20000 in
theorem ggX8_tellDoubles_X6_isOf : GoodIn wsX8_tellDoubles wsX6_isOf := goodIn_r _ [18, 14, 19, 20, 21, 22, 62, 63, 64, 65, 66, 67, 68] (by decide +kernel) (by decide +kernel)
set_option maxRecDepth 20000 in
theorem gX8_tellDoubles_X6_isOf : GoodIn wsX8_tellDoubles (wsV RX8 220 RX6 yX6_isOf wsX6_isOf) := goodIn_app (goodIn_of _ (by decide +kernel)) ggX8_tellDoubles_X6_isOf
set_option maxRecDepth 20000 in
theorem ggX8_tellDoubles_X6_serialOf : GoodIn wsX8_tellDoubles wsX6_serialOf := goodIn_r _ [26, 14, 27, 28, 20, 21, 22, 62, 63, 64, 65, 66, 67, 68] (by decide +kernel) (by decide +kernel)
set_option maxRecDepth 20000 in
theorem gX8_tellDoubles_X6_serialOf : GoodIn wsX8_tellDoubles (wsV RX8 223 RX6 yX6_serialOf wsX6_serialOf) := goodIn_app (goodIn_of _ (by decide +kernel)) ggX8_tellDoubles_X6_serialOf
set_option maxRecDepth 20000 in
theorem ggX8_tellDoubles_X6_find : GoodIn wsX8_tellDoubles wsX6_find := goodIn_r _ [32, 14, 27, 19, 62, 63, 64, 65, 66, 67, 68] (by decide +kernel) (by decide +kernel)
set_option maxRecDepth 20000 in
theorem gX8_tellDoubles_X6_find : GoodIn wsX8_tellDoubles (wsV RX8 206 RX6 yX6_find wsX6_find) := goodIn_app (goodIn_of _ (by decide +kernel)) ggX8_tellDoubles_X6_find
set_option maxRecDepth 20000 in
theorem ggX8_tellDoubles_X6_payerOf : GoodIn wsX8_tellDoubles wsX6_payerOf := goodIn_r _ [36, 14, 37, 20, 21, 22, 62, 63, 64, 65, 66, 67, 68] (by decide +kernel) (by decide +kernel)
set_option maxRecDepth 20000 in
theorem gX8_tellDoubles_X6_payerOf : GoodIn wsX8_tellDoubles (wsV RX8 226 RX6 yX6_payerOf wsX6_payerOf) := goodIn_app (goodIn_of _ (by decide +kernel)) ggX8_tellDoubles_X6_payerOf
set_option maxRecDepth 20000 in
theorem ggX8_tellDoubles_X2_insert : GoodIn wsX8_tellDoubles wsX2_insert := goodIn_r _ [41, 8, 42, 43, 44, 58, 59, 60, 61] (by decide +kernel) (by decide +kernel)
set_option maxRecDepth 20000 in
theorem gX8_tellDoubles_X2_insert : GoodIn wsX8_tellDoubles (wsV RX8 229 RX2 yX2_insert wsX2_insert) := goodIn_app (goodIn_of _ (by decide +kernel)) ggX8_tellDoubles_X2_insert
set_option maxRecDepth 20000 in
theorem ggX8_tellDoubles_X6_leaveSet : GoodIn wsX8_tellDoubles wsX6_leaveSet := goodIn_r _ [48, 14, 19, 20, 21, 22, 62, 63, 64, 65, 66, 67, 68] (by decide +kernel) (by decide +kernel)
set_option maxRecDepth 20000 in
theorem gX8_tellDoubles_X6_leaveSet : GoodIn wsX8_tellDoubles (wsV RX8 233 RX6 yX6_leaveSet wsX6_leaveSet) := goodIn_app (goodIn_of _ (by decide +kernel)) ggX8_tellDoubles_X6_leaveSet
theorem dX8_tellDoubles_0 : decode cX8_tellDoubles 0 = .ok (.aload_n 0, 1) := by decide +kernel
theorem dX8_tellDoubles_1 : decode cX8_tellDoubles 1 = .ok (.getfield 40, 3) := by decide +kernel
theorem dX8_tellDoubles_4 : decode cX8_tellDoubles 4 = .ok (.invokevirtual 216, 3) := by decide +kernel
theorem dX8_tellDoubles_7 : decode cX8_tellDoubles 7 = .ok (.istore_n 3, 1) := by decide +kernel
theorem dX8_tellDoubles_8 : decode cX8_tellDoubles 8 = .ok (.iconst 0, 1) := by decide +kernel
theorem dX8_tellDoubles_9 : decode cX8_tellDoubles 9 = .ok (.istore 4, 2) := by decide +kernel
theorem dX8_tellDoubles_11 : decode cX8_tellDoubles 11 = .ok (.iload 4, 2) := by decide +kernel
theorem dX8_tellDoubles_13 : decode cX8_tellDoubles 13 = .ok (.aload_n 0, 1) := by decide +kernel
theorem dX8_tellDoubles_14 : decode cX8_tellDoubles 14 = .ok (.getfield 33, 3) := by decide +kernel
theorem dX8_tellDoubles_17 : decode cX8_tellDoubles 17 = .ok (.invokevirtual 219, 3) := by decide +kernel
theorem dX8_tellDoubles_20 : decode cX8_tellDoubles 20 = .ok (.if_icmp .ge 91, 3) := by decide +kernel
theorem dX8_tellDoubles_23 : decode cX8_tellDoubles 23 = .ok (.aload_n 0, 1) := by decide +kernel
theorem dX8_tellDoubles_24 : decode cX8_tellDoubles 24 = .ok (.getfield 33, 3) := by decide +kernel
theorem dX8_tellDoubles_27 : decode cX8_tellDoubles 27 = .ok (.iload 4, 2) := by decide +kernel
theorem dX8_tellDoubles_29 : decode cX8_tellDoubles 29 = .ok (.iload_n 2, 1) := by decide +kernel
theorem dX8_tellDoubles_30 : decode cX8_tellDoubles 30 = .ok (.invokevirtual 220, 3) := by decide +kernel
theorem dX8_tellDoubles_33 : decode cX8_tellDoubles 33 = .ok (.ifCond .eq 72, 3) := by decide +kernel
theorem dX8_tellDoubles_36 : decode cX8_tellDoubles 36 = .ok (.aload_n 0, 1) := by decide +kernel
theorem dX8_tellDoubles_37 : decode cX8_tellDoubles 37 = .ok (.getfield 33, 3) := by decide +kernel
theorem dX8_tellDoubles_40 : decode cX8_tellDoubles 40 = .ok (.aload_n 0, 1) := by decide +kernel
theorem dX8_tellDoubles_41 : decode cX8_tellDoubles 41 = .ok (.getfield 33, 3) := by decide +kernel
theorem dX8_tellDoubles_44 : decode cX8_tellDoubles 44 = .ok (.iload 4, 2) := by decide +kernel
theorem dX8_tellDoubles_46 : decode cX8_tellDoubles 46 = .ok (.invokevirtual 223, 3) := by decide +kernel
theorem dX8_tellDoubles_49 : decode cX8_tellDoubles 49 = .ok (.iload_n 1, 1) := by decide +kernel
theorem dX8_tellDoubles_50 : decode cX8_tellDoubles 50 = .ok (.invokevirtual 206, 3) := by decide +kernel
theorem dX8_tellDoubles_53 : decode cX8_tellDoubles 53 = .ok (.istore 5, 2) := by decide +kernel
theorem dX8_tellDoubles_55 : decode cX8_tellDoubles 55 = .ok (.iload 5, 2) := by decide +kernel
theorem dX8_tellDoubles_57 : decode cX8_tellDoubles 57 = .ok (.iconst (-1), 1) := by decide +kernel
theorem dX8_tellDoubles_58 : decode cX8_tellDoubles 58 = .ok (.if_icmp .eq 47, 3) := by decide +kernel
theorem dX8_tellDoubles_61 : decode cX8_tellDoubles 61 = .ok (.aload_n 0, 1) := by decide +kernel
theorem dX8_tellDoubles_62 : decode cX8_tellDoubles 62 = .ok (.getfield 40, 3) := by decide +kernel
theorem dX8_tellDoubles_65 : decode cX8_tellDoubles 65 = .ok (.iload_n 3, 1) := by decide +kernel
theorem dX8_tellDoubles_66 : decode cX8_tellDoubles 66 = .ok (.aload_n 0, 1) := by decide +kernel
theorem dX8_tellDoubles_67 : decode cX8_tellDoubles 67 = .ok (.getfield 33, 3) := by decide +kernel
theorem dX8_tellDoubles_70 : decode cX8_tellDoubles 70 = .ok (.iload 4, 2) := by decide +kernel
theorem dX8_tellDoubles_72 : decode cX8_tellDoubles 72 = .ok (.invokevirtual 223, 3) := by decide +kernel
theorem dX8_tellDoubles_75 : decode cX8_tellDoubles 75 = .ok (.aload_n 0, 1) := by decide +kernel
theorem dX8_tellDoubles_76 : decode cX8_tellDoubles 76 = .ok (.getfield 33, 3) := by decide +kernel
theorem dX8_tellDoubles_79 : decode cX8_tellDoubles 79 = .ok (.iload 5, 2) := by decide +kernel
theorem dX8_tellDoubles_81 : decode cX8_tellDoubles 81 = .ok (.invokevirtual 226, 3) := by decide +kernel
theorem dX8_tellDoubles_84 : decode cX8_tellDoubles 84 = .ok (.aload_n 0, 1) := by decide +kernel
theorem dX8_tellDoubles_85 : decode cX8_tellDoubles 85 = .ok (.getfield 33, 3) := by decide +kernel
theorem dX8_tellDoubles_88 : decode cX8_tellDoubles 88 = .ok (.iload 4, 2) := by decide +kernel
theorem dX8_tellDoubles_90 : decode cX8_tellDoubles 90 = .ok (.invokevirtual 226, 3) := by decide +kernel
theorem dX8_tellDoubles_93 : decode cX8_tellDoubles 93 = .ok (.invokevirtual 229, 3) := by decide +kernel
theorem dX8_tellDoubles_96 : decode cX8_tellDoubles 96 = .ok (.aload_n 0, 1) := by decide +kernel
theorem dX8_tellDoubles_97 : decode cX8_tellDoubles 97 = .ok (.getfield 33, 3) := by decide +kernel
theorem dX8_tellDoubles_100 : decode cX8_tellDoubles 100 = .ok (.iload 4, 2) := by decide +kernel
theorem dX8_tellDoubles_102 : decode cX8_tellDoubles 102 = .ok (.invokevirtual 233, 3) := by decide +kernel
theorem dX8_tellDoubles_105 : decode cX8_tellDoubles 105 = .ok (.iinc 4 1, 3) := by decide +kernel
theorem dX8_tellDoubles_108 : decode cX8_tellDoubles 108 = .ok (.goto (-97), 3) := by decide +kernel
theorem dX8_tellDoubles_111 : decode cX8_tellDoubles 111 = .ok (.aload_n 0, 1) := by decide +kernel
theorem dX8_tellDoubles_112 : decode cX8_tellDoubles 112 = .ok (.getfield 40, 3) := by decide +kernel
theorem dX8_tellDoubles_115 : decode cX8_tellDoubles 115 = .ok (.invokevirtual 216, 3) := by decide +kernel
theorem dX8_tellDoubles_118 : decode cX8_tellDoubles 118 = .ok (.iload_n 3, 1) := by decide +kernel
theorem dX8_tellDoubles_119 : decode cX8_tellDoubles 119 = .ok (.isub, 1) := by decide +kernel
theorem dX8_tellDoubles_120 : decode cX8_tellDoubles 120 = .ok (.ireturn, 1) := by decide +kernel
theorem dX8_isIndex_0 : decode cX8_isIndex 0 = .ok (.iload_n 0, 1) := by decide +kernel
theorem dX8_isIndex_1 : decode cX8_isIndex 1 = .ok (.ifCond .lt 12, 3) := by decide +kernel
theorem dX8_isIndex_4 : decode cX8_isIndex 4 = .ok (.iload_n 0, 1) := by decide +kernel
theorem dX8_isIndex_5 : decode cX8_isIndex 5 = .ok (.iload_n 1, 1) := by decide +kernel
theorem dX8_isIndex_6 : decode cX8_isIndex 6 = .ok (.if_icmp .ge 7, 3) := by decide +kernel
theorem dX8_isIndex_9 : decode cX8_isIndex 9 = .ok (.iconst 1, 1) := by decide +kernel
theorem dX8_isIndex_10 : decode cX8_isIndex 10 = .ok (.goto 4, 3) := by decide +kernel
theorem dX8_isIndex_13 : decode cX8_isIndex 13 = .ok (.iconst 0, 1) := by decide +kernel
theorem dX8_isIndex_14 : decode cX8_isIndex 14 = .ok (.ireturn, 1) := by decide +kernel
