theorem dX0_init_0 : decode cX0_init 0 = .ok (.aload_n 0, 1) := by decide +kernel
theorem dX0_init_1 : decode cX0_init 1 = .ok (.invokespecial 5, 3) := by decide +kernel
theorem dX0_init_4 : decode cX0_init 4 = .ok (.aload_n 0, 1) := by decide +kernel
theorem dX0_init_5 : decode cX0_init 5 = .ok (.bipush 64, 2) := by decide +kernel
theorem dX0_init_7 : decode cX0_init 7 = .ok (.newarray .int, 2) := by decide +kernel
theorem dX0_init_9 : decode cX0_init 9 = .ok (.putfield 11, 3) := by decide +kernel
theorem dX0_init_12 : decode cX0_init 12 = .ok (.aload_n 0, 1) := by decide +kernel
theorem dX0_init_13 : decode cX0_init 13 = .ok (.bipush 14, 2) := by decide +kernel
theorem dX0_init_15 : decode cX0_init 15 = .ok (.newarray .int, 2) := by decide +kernel
theorem dX0_init_17 : decode cX0_init 17 = .ok (.putfield 15, 3) := by decide +kernel
theorem dX0_init_20 : decode cX0_init 20 = .ok (.aload_n 0, 1) := by decide +kernel
theorem dX0_init_21 : decode cX0_init 21 = .ok (.iconst 0, 1) := by decide +kernel
theorem dX0_init_22 : decode cX0_init 22 = .ok (.putfield 18, 3) := by decide +kernel
theorem dX0_init_25 : decode cX0_init 25 = .ok (.return_, 1) := by decide +kernel
set_option maxRecDepth 20000 in
theorem ggX0_setWidth_X8_isIndex : GoodIn wsX0_setWidth wsX8_isIndex := goodIn_r _ [4] (by decide +kernel) (by decide +kernel)
set_option maxRecDepth 20000 in
theorem gX0_setWidth_X8_isIndex_n22 : GoodIn wsX0_setWidth (wsX8_isIndex) := ggX0_setWidth_X8_isIndex
theorem dX0_setWidth_0 : decode cX0_setWidth 0 = .ok (.iload_n 1, 1) := by decide +kernel
theorem dX0_setWidth_1 : decode cX0_setWidth 1 = .ok (.bipush 64, 2) := by decide +kernel
theorem dX0_setWidth_3 : decode cX0_setWidth 3 = .ok (.invokestatic 22, 3) := by decide +kernel
theorem dX0_setWidth_6 : decode cX0_setWidth 6 = .ok (.ifCond .eq 14, 3) := by decide +kernel
theorem dX0_setWidth_9 : decode cX0_setWidth 9 = .ok (.iload_n 2, 1) := by decide +kernel
theorem dX0_setWidth_10 : decode cX0_setWidth 10 = .ok (.ifCond .lt 10, 3) := by decide +kernel
theorem dX0_setWidth_13 : decode cX0_setWidth 13 = .ok (.iload_n 2, 1) := by decide +kernel
theorem dX0_setWidth_14 : decode cX0_setWidth 14 = .ok (.sipush 1000, 3) := by decide +kernel
theorem dX0_setWidth_17 : decode cX0_setWidth 17 = .ok (.if_icmp .le 5, 3) := by decide +kernel
theorem dX0_setWidth_20 : decode cX0_setWidth 20 = .ok (.iconst 0, 1) := by decide +kernel
theorem dX0_setWidth_21 : decode cX0_setWidth 21 = .ok (.ireturn, 1) := by decide +kernel
theorem dX0_setWidth_22 : decode cX0_setWidth 22 = .ok (.aload_n 0, 1) := by decide +kernel
theorem dX0_setWidth_23 : decode cX0_setWidth 23 = .ok (.getfield 11, 3) := by decide +kernel
theorem dX0_setWidth_26 : decode cX0_setWidth 26 = .ok (.iload_n 1, 1) := by decide +kernel
theorem dX0_setWidth_27 : decode cX0_setWidth 27 = .ok (.iload_n 2, 1) := by decide +kernel
theorem dX0_setWidth_28 : decode cX0_setWidth 28 = .ok (.iastore, 1) := by decide +kernel
theorem dX0_setWidth_29 : decode cX0_setWidth 29 = .ok (.iconst 1, 1) := by decide +kernel
theorem dX0_setWidth_30 : decode cX0_setWidth 30 = .ok (.ireturn, 1) := by decide +kernel
set_option maxRecDepth 20000 in
theorem ggX0_scan_X0_rowLength : GoodIn wsX0_scan wsX0_rowLength := goodIn_r _ [6, 7, 33, 34, 35] (by decide +kernel) (by decide +kernel)
set_option maxRecDepth 20000 in
theorem gX0_scan_X0_rowLength : GoodIn wsX0_scan (wsV RX0 26 RX0 yX0_rowLength wsX0_rowLength) := goodIn_app (goodIn_of _ (by decide +kernel)) ggX0_scan_X0_rowLength
set_option maxRecDepth 20000 in
theorem ggX0_scan_X0_decode : GoodIn wsX0_scan wsX0_decode := goodIn_r _ [11, 12, 1, 13, 14, 15, 5, 16, 17, 18, 19, 20, 7, 21, 22, 23, 24, 25, 26, 27, 28, 29, 30, 31, 32, 33, 34, 35] (by decide +kernel) (by decide +kernel)
set_option maxRecDepth 20000 in
theorem gX0_scan_X0_decode : GoodIn wsX0_scan (wsV RX0 30 RX0 yX0_decode wsX0_decode) := goodIn_app (goodIn_of _ (by decide +kernel)) ggX0_scan_X0_decode
theorem dX0_scan_0 : decode cX0_scan 0 = .ok (.aload_n 0, 1) := by decide +kernel
theorem dX0_scan_1 : decode cX0_scan 1 = .ok (.invokevirtual 26, 3) := by decide +kernel
theorem dX0_scan_4 : decode cX0_scan 4 = .ok (.istore_n 2, 1) := by decide +kernel
theorem dX0_scan_5 : decode cX0_scan 5 = .ok (.aload_n 0, 1) := by decide +kernel
theorem dX0_scan_6 : decode cX0_scan 6 = .ok (.iload_n 2, 1) := by decide +kernel
theorem dX0_scan_7 : decode cX0_scan 7 = .ok (.iload_n 1, 1) := by decide +kernel
theorem dX0_scan_8 : decode cX0_scan 8 = .ok (.invokevirtual 30, 3) := by decide +kernel
theorem dX0_scan_11 : decode cX0_scan 11 = .ok (.ifCond .ne 20, 3) := by decide +kernel
theorem dX0_scan_14 : decode cX0_scan 14 = .ok (.aload_n 0, 1) := by decide +kernel
theorem dX0_scan_15 : decode cX0_scan 15 = .ok (.iload_n 2, 1) := by decide +kernel
theorem dX0_scan_16 : decode cX0_scan 16 = .ok (.iload_n 1, 1) := by decide +kernel
theorem dX0_scan_17 : decode cX0_scan 17 = .ok (.ifCond .ne 7, 3) := by decide +kernel
theorem dX0_scan_20 : decode cX0_scan 20 = .ok (.iconst 1, 1) := by decide +kernel
theorem dX0_scan_21 : decode cX0_scan 21 = .ok (.goto 4, 3) := by decide +kernel
theorem dX0_scan_24 : decode cX0_scan 24 = .ok (.iconst 0, 1) := by decide +kernel
theorem dX0_scan_25 : decode cX0_scan 25 = .ok (.invokevirtual 30, 3) := by decide +kernel
theorem dX0_scan_28 : decode cX0_scan 28 = .ok (.ifCond .eq 8, 3) := by decide +kernel
theorem dX0_scan_31 : decode cX0_scan 31 = .ok (.aload_n 0, 1) := by decide +kernel
theorem dX0_scan_32 : decode cX0_scan 32 = .ok (.getfield 18, 3) := by decide +kernel
theorem dX0_scan_35 : decode cX0_scan 35 = .ok (.ireturn, 1) := by decide +kernel
theorem dX0_scan_36 : decode cX0_scan 36 = .ok (.aload_n 0, 1) := by decide +kernel
theorem dX0_scan_37 : decode cX0_scan 37 = .ok (.iconst 0, 1) := by decide +kernel
theorem dX0_scan_38 : decode cX0_scan 38 = .ok (.putfield 18, 3) := by decide +kernel
theorem dX0_scan_41 : decode cX0_scan 41 = .ok (.iconst (-1), 1) := by decide +kernel
theorem dX0_scan_42 : decode cX0_scan 42 = .ok (.ireturn, 1) := by decide +kernel
set_option maxRecDepth 20000 in
theorem ggX0_digitAt_X8_isIndex : GoodIn wsX0_digitAt wsX8_isIndex := goodIn_r _ [5] (by decide +kernel) (by decide +kernel)
set_option maxRecDepth 20000 in
theorem gX0_digitAt_X8_isIndex_n22 : GoodIn wsX0_digitAt (wsX8_isIndex) := ggX0_digitAt_X8_isIndex
theorem dX0_digitAt_0 : decode cX0_digitAt 0 = .ok (.iload_n 1, 1) := by decide +kernel
theorem dX0_digitAt_1 : decode cX0_digitAt 1 = .ok (.aload_n 0, 1) := by decide +kernel
theorem dX0_digitAt_2 : decode cX0_digitAt 2 = .ok (.getfield 18, 3) := by decide +kernel
theorem dX0_digitAt_5 : decode cX0_digitAt 5 = .ok (.invokestatic 22, 3) := by decide +kernel
theorem dX0_digitAt_8 : decode cX0_digitAt 8 = .ok (.ifCond .eq 12, 3) := by decide +kernel
theorem dX0_digitAt_11 : decode cX0_digitAt 11 = .ok (.aload_n 0, 1) := by decide +kernel
theorem dX0_digitAt_12 : decode cX0_digitAt 12 = .ok (.getfield 15, 3) := by decide +kernel
theorem dX0_digitAt_15 : decode cX0_digitAt 15 = .ok (.iload_n 1, 1) := by decide +kernel
theorem dX0_digitAt_16 : decode cX0_digitAt 16 = .ok (.iaload, 1) := by decide +kernel
theorem dX0_digitAt_17 : decode cX0_digitAt 17 = .ok (.goto 4, 3) := by decide +kernel
theorem dX0_digitAt_20 : decode cX0_digitAt 20 = .ok (.iconst (-1), 1) := by decide +kernel
theorem dX0_digitAt_21 : decode cX0_digitAt 21 = .ok (.ireturn, 1) := by decide +kernel
theorem dX0_rowLength_0 : decode cX0_rowLength 0 = .ok (.iconst 0, 1) := by decide +kernel
theorem dX0_rowLength_1 : decode cX0_rowLength 1 = .ok (.istore_n 1, 1) := by decide +kernel
theorem dX0_rowLength_2 : decode cX0_rowLength 2 = .ok (.iload_n 1, 1) := by decide +kernel
theorem dX0_rowLength_3 : decode cX0_rowLength 3 = .ok (.bipush 64, 2) := by decide +kernel
theorem dX0_rowLength_5 : decode cX0_rowLength 5 = .ok (.if_icmp .ge 18, 3) := by decide +kernel
theorem dX0_rowLength_8 : decode cX0_rowLength 8 = .ok (.aload_n 0, 1) := by decide +kernel
theorem dX0_rowLength_9 : decode cX0_rowLength 9 = .ok (.getfield 11, 3) := by decide +kernel
theorem dX0_rowLength_12 : decode cX0_rowLength 12 = .ok (.iload_n 1, 1) := by decide +kernel
theorem dX0_rowLength_13 : decode cX0_rowLength 13 = .ok (.iaload, 1) := by decide +kernel
theorem dX0_rowLength_14 : decode cX0_rowLength 14 = .ok (.ifCond .eq 9, 3) := by decide +kernel
theorem dX0_rowLength_17 : decode cX0_rowLength 17 = .ok (.iinc 1 1, 3) := by decide +kernel
theorem dX0_rowLength_20 : decode cX0_rowLength 20 = .ok (.goto (-18), 3) := by decide +kernel
theorem dX0_rowLength_23 : decode cX0_rowLength 23 = .ok (.iload_n 1, 1) := by decide +kernel
theorem dX0_rowLength_24 : decode cX0_rowLength 24 = .ok (.ireturn, 1) := by decide +kernel
set_option maxRecDepth 20000 in
theorem ggX0_decode_X0_isEdge : GoodIn wsX0_decode wsX0_isEdge := goodIn_r _ [7, 8, 9, 10, 6, 11, 12, 13, 14, 15, 25, 26, 27] (by decide +kernel) (by decide +kernel)
set_option maxRecDepth 20000 in
theorem gX0_decode_X0_isEdge : GoodIn wsX0_decode (wsV RX0 34 RX0 yX0_isEdge wsX0_isEdge) := goodIn_app (goodIn_of _ (by decide +kernel)) ggX0_decode_X0_isEdge
set_option maxRecDepth 20000 in
theorem ggX0_decode_X0_digitOfGroup : GoodIn wsX0_decode wsX0_digitOfGroup := goodIn_r _ [19, 20, 21, 22, 6, 23, 24, 8, 9, 10, 11, 12, 13, 14, 15, 25, 26, 27] (by decide +kernel) (by decide +kernel)
set_option maxRecDepth 20000 in
theorem gX0_decode_X0_digitOfGroup : GoodIn wsX0_decode (wsV RX0 38 RX0 yX0_digitOfGroup wsX0_digitOfGroup) := goodIn_app (goodIn_of _ (by decide +kernel)) ggX0_decode_X0_digitOfGroup
theorem dX0_decode_0 : decode cX0_decode 0 = .ok (.iload_n 1, 1) := by decide +kernel
theorem dX0_decode_1 : decode cX0_decode 1 = .ok (.bipush 6, 2) := by decide +kernel
theorem dX0_decode_3 : decode cX0_decode 3 = .ok (.isub, 1) := by decide +kernel
theorem dX0_decode_4 : decode cX0_decode 4 = .ok (.istore_n 3, 1) := by decide +kernel
theorem dX0_decode_5 : decode cX0_decode 5 = .ok (.iload_n 3, 1) := by decide +kernel
theorem dX0_decode_6 : decode cX0_decode 6 = .ok (.iconst 4, 1) := by decide +kernel
theorem dX0_decode_7 : decode cX0_decode 7 = .ok (.if_icmp .lt 27, 3) := by decide +kernel
theorem dX0_decode_10 : decode cX0_decode 10 = .ok (.iload_n 3, 1) := by decide +kernel
theorem dX0_decode_11 : decode cX0_decode 11 = .ok (.iconst 4, 1) := by decide +kernel
theorem dX0_decode_12 : decode cX0_decode 12 = .ok (.irem, 1) := by decide +kernel
theorem dX0_decode_13 : decode cX0_decode 13 = .ok (.ifCond .ne 21, 3) := by decide +kernel
theorem dX0_decode_16 : decode cX0_decode 16 = .ok (.aload_n 0, 1) := by decide +kernel
theorem dX0_decode_17 : decode cX0_decode 17 = .ok (.iconst 0, 1) := by decide +kernel
theorem dX0_decode_18 : decode cX0_decode 18 = .ok (.invokevirtual 34, 3) := by decide +kernel
theorem dX0_decode_21 : decode cX0_decode 21 = .ok (.ifCond .eq 13, 3) := by decide +kernel
theorem dX0_decode_24 : decode cX0_decode 24 = .ok (.aload_n 0, 1) := by decide +kernel
theorem dX0_decode_25 : decode cX0_decode 25 = .ok (.iload_n 1, 1) := by decide +kernel
theorem dX0_decode_26 : decode cX0_decode 26 = .ok (.iconst 3, 1) := by decide +kernel
theorem dX0_decode_27 : decode cX0_decode 27 = .ok (.isub, 1) := by decide +kernel
theorem dX0_decode_28 : decode cX0_decode 28 = .ok (.invokevirtual 34, 3) := by decide +kernel
theorem dX0_decode_31 : decode cX0_decode 31 = .ok (.ifCond .ne 5, 3) := by decide +kernel
theorem dX0_decode_34 : decode cX0_decode 34 = .ok (.iconst 0, 1) := by decide +kernel
theorem dX0_decode_35 : decode cX0_decode 35 = .ok (.ireturn, 1) := by decide +kernel
theorem dX0_decode_36 : decode cX0_decode 36 = .ok (.iload_n 3, 1) := by decide +kernel
theorem dX0_decode_37 : decode cX0_decode 37 = .ok (.iconst 4, 1) := by decide +kernel
theorem dX0_decode_38 : decode cX0_decode 38 = .ok (.idiv, 1) := by decide +kernel
theorem dX0_decode_39 : decode cX0_decode 39 = .ok (.istore 4, 2) := by decide +kernel
theorem dX0_decode_41 : decode cX0_decode 41 = .ok (.iconst 0, 1) := by decide +kernel
theorem dX0_decode_42 : decode cX0_decode 42 = .ok (.istore 5, 2) := by decide +kernel
theorem dX0_decode_44 : decode cX0_decode 44 = .ok (.iload 5, 2) := by decide +kernel
theorem dX0_decode_46 : decode cX0_decode 46 = .ok (.iload 4, 2) := by decide +kernel
theorem dX0_decode_48 : decode cX0_decode 48 = .ok (.if_icmp .ge 47, 3) := by decide +kernel
theorem dX0_decode_51 : decode cX0_decode 51 = .ok (.iload 5, 2) := by decide +kernel
theorem dX0_decode_53 : decode cX0_decode 53 = .ok (.bipush 14, 2) := by decide +kernel
theorem dX0_decode_55 : decode cX0_decode 55 = .ok (.if_icmp .ge 40, 3) := by decide +kernel
theorem dX0_decode_58 : decode cX0_decode 58 = .ok (.aload_n 0, 1) := by decide +kernel
theorem dX0_decode_59 : decode cX0_decode 59 = .ok (.iconst 3, 1) := by decide +kernel
theorem dX0_decode_60 : decode cX0_decode 60 = .ok (.iload 5, 2) := by decide +kernel
theorem dX0_decode_62 : decode cX0_decode 62 = .ok (.iconst 4, 1) := by decide +kernel
theorem dX0_decode_63 : decode cX0_decode 63 = .ok (.imul, 1) := by decide +kernel
theorem dX0_decode_64 : decode cX0_decode 64 = .ok (.iadd, 1) := by decide +kernel
theorem dX0_decode_65 : decode cX0_decode 65 = .ok (.iload_n 1, 1) := by decide +kernel
theorem dX0_decode_66 : decode cX0_decode 66 = .ok (.iload_n 2, 1) := by decide +kernel
theorem dX0_decode_67 : decode cX0_decode 67 = .ok (.invokevirtual 38, 3) := by decide +kernel
theorem dX0_decode_70 : decode cX0_decode 70 = .ok (.istore 6, 2) := by decide +kernel
theorem dX0_decode_72 : decode cX0_decode 72 = .ok (.iload 6, 2) := by decide +kernel
theorem dX0_decode_74 : decode cX0_decode 74 = .ok (.iconst (-1), 1) := by decide +kernel
theorem dX0_decode_75 : decode cX0_decode 75 = .ok (.if_icmp .ne 5, 3) := by decide +kernel
theorem dX0_decode_78 : decode cX0_decode 78 = .ok (.iconst 0, 1) := by decide +kernel
theorem dX0_decode_79 : decode cX0_decode 79 = .ok (.ireturn, 1) := by decide +kernel
theorem dX0_decode_80 : decode cX0_decode 80 = .ok (.aload_n 0, 1) := by decide +kernel
theorem dX0_decode_81 : decode cX0_decode 81 = .ok (.getfield 15, 3) := by decide +kernel
theorem dX0_decode_84 : decode cX0_decode 84 = .ok (.iload 5, 2) := by decide +kernel
theorem dX0_decode_86 : decode cX0_decode 86 = .ok (.iload 6, 2) := by decide +kernel
theorem dX0_decode_88 : decode cX0_decode 88 = .ok (.iastore, 1) := by decide +kernel
theorem dX0_decode_89 : decode cX0_decode 89 = .ok (.iinc 5 1, 3) := by decide +kernel
theorem dX0_decode_92 : decode cX0_decode 92 = .ok (.goto (-48), 3) := by decide +kernel
theorem dX0_decode_95 : decode cX0_decode 95 = .ok (.aload_n 0, 1) := by decide +kernel
theorem dX0_decode_96 : decode cX0_decode 96 = .ok (.iload 4, 2) := by decide +kernel
theorem dX0_decode_98 : decode cX0_decode 98 = .ok (.putfield 18, 3) := by decide +kernel
theorem dX0_decode_101 : decode cX0_decode 101 = .ok (.iconst 1, 1) := by decide +kernel
theorem dX0_decode_102 : decode cX0_decode 102 = .ok (.ireturn, 1) := by decide +kernel
set_option maxRecDepth 20000 in
theorem ggX0_isEdge_X0_widthAt : GoodIn wsX0_isEdge wsX0_widthAt := goodIn_r _ [5, 6, 7, 8, 9, 10, 11, 12] (by decide +kernel) (by decide +kernel)
set_option maxRecDepth 20000 in
theorem gX0_isEdge_X0_widthAt : GoodIn wsX0_isEdge (wsV RX0 42 RX0 yX0_widthAt wsX0_widthAt) := goodIn_app (goodIn_of _ (by decide +kernel)) ggX0_isEdge_X0_widthAt
theorem dX0_isEdge_0 : decode cX0_isEdge 0 = .ok (.aload_n 0, 1) := by decide +kernel
theorem dX0_isEdge_1 : decode cX0_isEdge 1 = .ok (.iload_n 1, 1) := by decide +kernel
theorem dX0_isEdge_2 : decode cX0_isEdge 2 = .ok (.invokevirtual 42, 3) := by decide +kernel
theorem dX0_isEdge_5 : decode cX0_isEdge 5 = .ok (.istore_n 2, 1) := by decide +kernel
theorem dX0_isEdge_6 : decode cX0_isEdge 6 = .ok (.iload_n 2, 1) := by decide +kernel
theorem dX0_isEdge_7 : decode cX0_isEdge 7 = .ok (.aload_n 0, 1) := by decide +kernel
theorem dX0_isEdge_8 : decode cX0_isEdge 8 = .ok (.iload_n 1, 1) := by decide +kernel
theorem dX0_isEdge_9 : decode cX0_isEdge 9 = .ok (.iconst 1, 1) := by decide +kernel
theorem dX0_isEdge_10 : decode cX0_isEdge 10 = .ok (.iadd, 1) := by decide +kernel
theorem dX0_isEdge_11 : decode cX0_isEdge 11 = .ok (.invokevirtual 42, 3) := by decide +kernel
theorem dX0_isEdge_14 : decode cX0_isEdge 14 = .ok (.if_icmp .ne 18, 3) := by decide +kernel
theorem dX0_isEdge_17 : decode cX0_isEdge 17 = .ok (.iload_n 2, 1) := by decide +kernel
theorem dX0_isEdge_18 : decode cX0_isEdge 18 = .ok (.aload_n 0, 1) := by decide +kernel
theorem dX0_isEdge_19 : decode cX0_isEdge 19 = .ok (.iload_n 1, 1) := by decide +kernel
theorem dX0_isEdge_20 : decode cX0_isEdge 20 = .ok (.iconst 2, 1) := by decide +kernel
theorem dX0_isEdge_21 : decode cX0_isEdge 21 = .ok (.iadd, 1) := by decide +kernel
theorem dX0_isEdge_22 : decode cX0_isEdge 22 = .ok (.invokevirtual 42, 3) := by decide +kernel
theorem dX0_isEdge_25 : decode cX0_isEdge 25 = .ok (.if_icmp .ne 7, 3) := by decide +kernel
theorem dX0_isEdge_28 : decode cX0_isEdge 28 = .ok (.iconst 1, 1) := by decide +kernel
theorem dX0_isEdge_29 : decode cX0_isEdge 29 = .ok (.goto 4, 3) := by decide +kernel
theorem dX0_isEdge_32 : decode cX0_isEdge 32 = .ok (.iconst 0, 1) := by decide +kernel
theorem dX0_isEdge_33 : decode cX0_isEdge 33 = .ok (.ireturn, 1) := by decide +kernel
set_option maxRecDepth 20000 in
theorem ggX0_digitOfGroup_X0_matches : GoodIn wsX0_digitOfGroup wsX0_matches := goodIn_r _ [5, 6, 7, 8, 9, 4, 10, 11, 12, 13, 14, 15, 16, 17] (by decide +kernel) (by decide +kernel)
set_option maxRecDepth 20000 in
theorem gX0_digitOfGroup_X0_matches : GoodIn wsX0_digitOfGroup (wsV RX0 46 RX0 yX0_matches wsX0_matches) := goodIn_app (goodIn_of _ (by decide +kernel)) ggX0_digitOfGroup_X0_matches
theorem dX0_digitOfGroup_0 : decode cX0_digitOfGroup 0 = .ok (.iconst 0, 1) := by decide +kernel
theorem dX0_digitOfGroup_1 : decode cX0_digitOfGroup 1 = .ok (.istore 4, 2) := by decide +kernel
theorem dX0_digitOfGroup_3 : decode cX0_digitOfGroup 3 = .ok (.iload 4, 2) := by decide +kernel
theorem dX0_digitOfGroup_5 : decode cX0_digitOfGroup 5 = .ok (.bipush 10, 2) := by decide +kernel
theorem dX0_digitOfGroup_7 : decode cX0_digitOfGroup 7 = .ok (.if_icmp .ge 24, 3) := by decide +kernel
theorem dX0_digitOfGroup_10 : decode cX0_digitOfGroup 10 = .ok (.aload_n 0, 1) := by decide +kernel
theorem dX0_digitOfGroup_11 : decode cX0_digitOfGroup 11 = .ok (.iload 4, 2) := by decide +kernel
theorem dX0_digitOfGroup_13 : decode cX0_digitOfGroup 13 = .ok (.iload_n 1, 1) := by decide +kernel
theorem dX0_digitOfGroup_14 : decode cX0_digitOfGroup 14 = .ok (.iload_n 2, 1) := by decide +kernel
theorem dX0_digitOfGroup_15 : decode cX0_digitOfGroup 15 = .ok (.iload_n 3, 1) := by decide +kernel
theorem dX0_digitOfGroup_16 : decode cX0_digitOfGroup 16 = .ok (.invokevirtual 46, 3) := by decide +kernel
theorem dX0_digitOfGroup_19 : decode cX0_digitOfGroup 19 = .ok (.ifCond .eq 6, 3) := by decide +kernel
theorem dX0_digitOfGroup_22 : decode cX0_digitOfGroup 22 = .ok (.iload 4, 2) := by decide +kernel
theorem dX0_digitOfGroup_24 : decode cX0_digitOfGroup 24 = .ok (.ireturn, 1) := by decide +kernel
theorem dX0_digitOfGroup_25 : decode cX0_digitOfGroup 25 = .ok (.iinc 4 1, 3) := by decide +kernel
theorem dX0_digitOfGroup_28 : decode cX0_digitOfGroup 28 = .ok (.goto (-25), 3) := by decide +kernel
theorem dX0_digitOfGroup_31 : decode cX0_digitOfGroup 31 = .ok (.iconst (-1), 1) := by decide +kernel
theorem dX0_digitOfGroup_32 : decode cX0_digitOfGroup 32 = .ok (.ireturn, 1) := by decide +kernel
set_option maxRecDepth 20000 in
theorem ggX0_matches_X0_widthAt : GoodIn wsX0_matches wsX0_widthAt := goodIn_r _ [6, 7, 8, 9, 10, 11, 12, 13] (by decide +kernel) (by decide +kernel)
set_option maxRecDepth 20000 in
theorem gX0_matches_X0_widthAt : GoodIn wsX0_matches (wsV RX0 42 RX0 yX0_widthAt wsX0_widthAt) := goodIn_app (goodIn_of _ (by decide +kernel)) ggX0_matches_X0_widthAt
theorem dX0_matches_0 : decode cX0_matches 0 = .ok (.iload 4, 2) := by decide +kernel
theorem dX0_matches_2 : decode cX0_matches 2 = .ok (.ifCond .eq 7, 3) := by decide +kernel
theorem dX0_matches_5 : decode cX0_matches 5 = .ok (.iconst (-1), 1) := by decide +kernel
theorem dX0_matches_6 : decode cX0_matches 6 = .ok (.goto 4, 3) := by decide +kernel
theorem dX0_matches_9 : decode cX0_matches 9 = .ok (.iconst 1, 1) := by decide +kernel
theorem dX0_matches_10 : decode cX0_matches 10 = .ok (.istore 5, 2) := by decide +kernel
theorem dX0_matches_12 : decode cX0_matches 12 = .ok (.iload 4, 2) := by decide +kernel
theorem dX0_matches_14 : decode cX0_matches 14 = .ok (.ifCond .eq 11, 3) := by decide +kernel
theorem dX0_matches_17 : decode cX0_matches 17 = .ok (.iload_n 3, 1) := by decide +kernel
theorem dX0_matches_18 : decode cX0_matches 18 = .ok (.iconst 1, 1) := by decide +kernel
theorem dX0_matches_19 : decode cX0_matches 19 = .ok (.isub, 1) := by decide +kernel
theorem dX0_matches_20 : decode cX0_matches 20 = .ok (.iload_n 2, 1) := by decide +kernel
theorem dX0_matches_21 : decode cX0_matches 21 = .ok (.isub, 1) := by decide +kernel
theorem dX0_matches_22 : decode cX0_matches 22 = .ok (.goto 4, 3) := by decide +kernel
theorem dX0_matches_25 : decode cX0_matches 25 = .ok (.iload_n 2, 1) := by decide +kernel
theorem dX0_matches_26 : decode cX0_matches 26 = .ok (.istore 6, 2) := by decide +kernel
theorem dX0_matches_28 : decode cX0_matches 28 = .ok (.iconst 0, 1) := by decide +kernel
theorem dX0_matches_29 : decode cX0_matches 29 = .ok (.istore 7, 2) := by decide +kernel
theorem dX0_matches_31 : decode cX0_matches 31 = .ok (.iconst 0, 1) := by decide +kernel
theorem dX0_matches_32 : decode cX0_matches 32 = .ok (.istore 8, 2) := by decide +kernel
theorem dX0_matches_34 : decode cX0_matches 34 = .ok (.iload 8, 2) := by decide +kernel
theorem dX0_matches_36 : decode cX0_matches 36 = .ok (.iconst 4, 1) := by decide +kernel
theorem dX0_matches_37 : decode cX0_matches 37 = .ok (.if_icmp .ge 26, 3) := by decide +kernel
theorem dX0_matches_40 : decode cX0_matches 40 = .ok (.iload 7, 2) := by decide +kernel
theorem dX0_matches_42 : decode cX0_matches 42 = .ok (.aload_n 0, 1) := by decide +kernel
theorem dX0_matches_43 : decode cX0_matches 43 = .ok (.iload 6, 2) := by decide +kernel
theorem dX0_matches_45 : decode cX0_matches 45 = .ok (.iload 8, 2) := by decide +kernel
theorem dX0_matches_47 : decode cX0_matches 47 = .ok (.iload 5, 2) := by decide +kernel
theorem dX0_matches_49 : decode cX0_matches 49 = .ok (.imul, 1) := by decide +kernel
theorem dX0_matches_50 : decode cX0_matches 50 = .ok (.iadd, 1) := by decide +kernel
theorem dX0_matches_51 : decode cX0_matches 51 = .ok (.invokevirtual 42, 3) := by decide +kernel
theorem dX0_matches_54 : decode cX0_matches 54 = .ok (.iadd, 1) := by decide +kernel
theorem dX0_matches_55 : decode cX0_matches 55 = .ok (.istore 7, 2) := by decide +kernel
theorem dX0_matches_57 : decode cX0_matches 57 = .ok (.iinc 8 1, 3) := by decide +kernel
theorem dX0_matches_60 : decode cX0_matches 60 = .ok (.goto (-26), 3) := by decide +kernel
theorem dX0_matches_63 : decode cX0_matches 63 = .ok (.iconst 0, 1) := by decide +kernel
theorem dX0_matches_64 : decode cX0_matches 64 = .ok (.istore 8, 2) := by decide +kernel
theorem dX0_matches_66 : decode cX0_matches 66 = .ok (.iload 8, 2) := by decide +kernel
theorem dX0_matches_68 : decode cX0_matches 68 = .ok (.iconst 4, 1) := by decide +kernel
theorem dX0_matches_69 : decode cX0_matches 69 = .ok (.if_icmp .ge 42, 3) := by decide +kernel
theorem dX0_matches_72 : decode cX0_matches 72 = .ok (.bipush 7, 2) := by decide +kernel
theorem dX0_matches_74 : decode cX0_matches 74 = .ok (.aload_n 0, 1) := by decide +kernel
theorem dX0_matches_75 : decode cX0_matches 75 = .ok (.iload 6, 2) := by decide +kernel
theorem dX0_matches_77 : decode cX0_matches 77 = .ok (.iload 8, 2) := by decide +kernel
theorem dX0_matches_79 : decode cX0_matches 79 = .ok (.iload 5, 2) := by decide +kernel
theorem dX0_matches_81 : decode cX0_matches 81 = .ok (.imul, 1) := by decide +kernel
theorem dX0_matches_82 : decode cX0_matches 82 = .ok (.iadd, 1) := by decide +kernel
theorem dX0_matches_83 : decode cX0_matches 83 = .ok (.invokevirtual 42, 3) := by decide +kernel
theorem dX0_matches_86 : decode cX0_matches 86 = .ok (.imul, 1) := by decide +kernel
theorem dX0_matches_87 : decode cX0_matches 87 = .ok (.iload 7, 2) := by decide +kernel
theorem dX0_matches_89 : decode cX0_matches 89 = .ok (.getstatic 50, 3) := by decide +kernel
theorem dX0_matches_92 : decode cX0_matches 92 = .ok (.iload_n 1, 1) := by decide +kernel
theorem dX0_matches_93 : decode cX0_matches 93 = .ok (.iconst 4, 1) := by decide +kernel
theorem dX0_matches_94 : decode cX0_matches 94 = .ok (.imul, 1) := by decide +kernel
theorem dX0_matches_95 : decode cX0_matches 95 = .ok (.iload 8, 2) := by decide +kernel
theorem dX0_matches_97 : decode cX0_matches 97 = .ok (.iadd, 1) := by decide +kernel
theorem dX0_matches_98 : decode cX0_matches 98 = .ok (.iaload, 1) := by decide +kernel
theorem dX0_matches_99 : decode cX0_matches 99 = .ok (.imul, 1) := by decide +kernel
theorem dX0_matches_100 : decode cX0_matches 100 = .ok (.if_icmp .eq 5, 3) := by decide +kernel
theorem dX0_matches_103 : decode cX0_matches 103 = .ok (.iconst 0, 1) := by decide +kernel
theorem dX0_matches_104 : decode cX0_matches 104 = .ok (.ireturn, 1) := by decide +kernel
theorem dX0_matches_105 : decode cX0_matches 105 = .ok (.iinc 8 1, 3) := by decide +kernel
theorem dX0_matches_108 : decode cX0_matches 108 = .ok (.goto (-42), 3) := by decide +kernel
theorem dX0_matches_111 : decode cX0_matches 111 = .ok (.iconst 1, 1) := by decide +kernel
theorem dX0_matches_112 : decode cX0_matches 112 = .ok (.ireturn, 1) := by decide +kernel
set_option maxRecDepth 20000 in
theorem ggX0_widthAt_X8_isIndex : GoodIn wsX0_widthAt wsX8_isIndex := goodIn_r _ [4] (by decide +kernel) (by decide +kernel)
set_option maxRecDepth 20000 in
theorem gX0_widthAt_X8_isIndex_n22 : GoodIn wsX0_widthAt (wsX8_isIndex) := ggX0_widthAt_X8_isIndex
theorem dX0_widthAt_0 : decode cX0_widthAt 0 = .ok (.iload_n 1, 1) := by decide +kernel
theorem dX0_widthAt_1 : decode cX0_widthAt 1 = .ok (.bipush 64, 2) := by decide +kernel
theorem dX0_widthAt_3 : decode cX0_widthAt 3 = .ok (.invokestatic 22, 3) := by decide +kernel
theorem dX0_widthAt_6 : decode cX0_widthAt 6 = .ok (.ifCond .eq 12, 3) := by decide +kernel
theorem dX0_widthAt_9 : decode cX0_widthAt 9 = .ok (.aload_n 0, 1) := by decide +kernel
theorem dX0_widthAt_10 : decode cX0_widthAt 10 = .ok (.getfield 11, 3) := by decide +kernel
theorem dX0_widthAt_13 : decode cX0_widthAt 13 = .ok (.iload_n 1, 1) := by decide +kernel
theorem dX0_widthAt_14 : decode cX0_widthAt 14 = .ok (.iaload, 1) := by decide +kernel
theorem dX0_widthAt_15 : decode cX0_widthAt 15 = .ok (.goto 4, 3) := by decide +kernel
theorem dX0_widthAt_18 : decode cX0_widthAt 18 = .ok (.iconst 0, 1) := by decide +kernel
theorem dX0_widthAt_19 : decode cX0_widthAt 19 = .ok (.ireturn, 1) := by decide +kernel
theorem dX1_init_0 : decode cX1_init 0 = .ok (.aload_n 0, 1) := by decide +kernel
theorem dX1_init_1 : decode cX1_init 1 = .ok (.invokespecial 3, 3) := by decide +kernel
theorem dX1_init_4 : decode cX1_init 4 = .ok (.aload_n 0, 1) := by decide +kernel
theorem dX1_init_5 : decode cX1_init 5 = .ok (.sipush 200, 3) := by decide +kernel
theorem dX1_init_8 : decode cX1_init 8 = .ok (.newarray .int, 2) := by decide +kernel
theorem dX1_init_10 : decode cX1_init 10 = .ok (.putfield 11, 3) := by decide +kernel
theorem dX1_init_13 : decode cX1_init 13 = .ok (.aload_n 0, 1) := by decide +kernel
theorem dX1_init_14 : decode cX1_init 14 = .ok (.sipush 200, 3) := by decide +kernel
theorem dX1_init_17 : decode cX1_init 17 = .ok (.newarray .boolean, 2) := by decide +kernel
theorem dX1_init_19 : decode cX1_init 19 = .ok (.putfield 17, 3) := by decide +kernel
theorem dX1_init_22 : decode cX1_init 22 = .ok (.aload_n 0, 1) := by decide +kernel
theorem dX1_init_23 : decode cX1_init 23 = .ok (.bipush 100, 2) := by decide +kernel
theorem dX1_init_25 : decode cX1_init 25 = .ok (.newarray .long, 2) := by decide +kernel
theorem dX1_init_27 : decode cX1_init 27 = .ok (.putfield 21, 3) := by decide +kernel
theorem dX1_init_30 : decode cX1_init 30 = .ok (.aload_n 0, 1) := by decide +kernel
theorem dX1_init_31 : decode cX1_init 31 = .ok (.iconst 0, 1) := by decide +kernel
theorem dX1_init_32 : decode cX1_init 32 = .ok (.putfield 25, 3) := by decide +kernel
theorem dX1_init_35 : decode cX1_init 35 = .ok (.return_, 1) := by decide +kernel
theorem dX1_print_0 : decode cX1_print 0 = .ok (.aload_n 0, 1) := by decide +kernel
theorem dX1_print_1 : decode cX1_print 1 = .ok (.getfield 25, 3) := by decide +kernel
theorem dX1_print_4 : decode cX1_print 4 = .ok (.sipush 200, 3) := by decide +kernel
theorem dX1_print_7 : decode cX1_print 7 = .ok (.if_icmp .lt 5, 3) := by decide +kernel
theorem dX1_print_10 : decode cX1_print 10 = .ok (.iconst (-1), 1) := by decide +kernel
theorem dX1_print_11 : decode cX1_print 11 = .ok (.ireturn, 1) := by decide +kernel
theorem dX1_print_12 : decode cX1_print 12 = .ok (.aload_n 0, 1) := by decide +kernel
theorem dX1_print_13 : decode cX1_print 13 = .ok (.getfield 25, 3) := by decide +kernel
theorem dX1_print_16 : decode cX1_print 16 = .ok (.istore_n 2, 1) := by decide +kernel
theorem dX1_print_17 : decode cX1_print 17 = .ok (.aload_n 0, 1) := by decide +kernel
theorem dX1_print_18 : decode cX1_print 18 = .ok (.getfield 11, 3) := by decide +kernel
theorem dX1_print_21 : decode cX1_print 21 = .ok (.iload_n 2, 1) := by decide +kernel
theorem dX1_print_22 : decode cX1_print 22 = .ok (.iload_n 1, 1) := by decide +kernel
theorem dX1_print_23 : decode cX1_print 23 = .ok (.iastore, 1) := by decide +kernel
theorem dX1_print_24 : decode cX1_print 24 = .ok (.aload_n 0, 1) := by decide +kernel
theorem dX1_print_25 : decode cX1_print 25 = .ok (.dup, 1) := by decide +kernel
theorem dX1_print_26 : decode cX1_print 26 = .ok (.getfield 25, 3) := by decide +kernel
theorem dX1_print_29 : decode cX1_print 29 = .ok (.iconst 1, 1) := by decide +kernel
theorem dX1_print_30 : decode cX1_print 30 = .ok (.iadd, 1) := by decide +kernel
theorem dX1_print_31 : decode cX1_print 31 = .ok (.putfield 25, 3) := by decide +kernel
theorem dX1_print_34 : decode cX1_print 34 = .ok (.iload_n 2, 1) := by decide +kernel
theorem dX1_print_35 : decode cX1_print 35 = .ok (.ireturn, 1) := by decide +kernel
set_option maxRecDepth 20000 in
theorem ggX1_redeemAt_X8_isIndex : GoodIn wsX1_redeemAt wsX8_isIndex := goodIn_r _ [7] (by decide +kernel) (by decide +kernel)
set_option maxRecDepth 20000 in
theorem gX1_redeemAt_X8_isIndex_n29 : GoodIn wsX1_redeemAt (wsX8_isIndex) := ggX1_redeemAt_X8_isIndex
theorem dX1_redeemAt_0 : decode cX1_redeemAt 0 = .ok (.iload_n 1, 1) := by decide +kernel
theorem dX1_redeemAt_1 : decode cX1_redeemAt 1 = .ok (.aload_n 0, 1) := by decide +kernel
theorem dX1_redeemAt_2 : decode cX1_redeemAt 2 = .ok (.getfield 25, 3) := by decide +kernel
theorem dX1_redeemAt_5 : decode cX1_redeemAt 5 = .ok (.invokestatic 29, 3) := by decide +kernel
theorem dX1_redeemAt_8 : decode cX1_redeemAt 8 = .ok (.ifCond .eq 21, 3) := by decide +kernel
theorem dX1_redeemAt_11 : decode cX1_redeemAt 11 = .ok (.iload_n 2, 1) := by decide +kernel
theorem dX1_redeemAt_12 : decode cX1_redeemAt 12 = .ok (.bipush 100, 2) := by decide +kernel
theorem dX1_redeemAt_14 : decode cX1_redeemAt 14 = .ok (.invokestatic 29, 3) := by decide +kernel
theorem dX1_redeemAt_17 : decode cX1_redeemAt 17 = .ok (.ifCond .eq 12, 3) := by decide +kernel
theorem dX1_redeemAt_20 : decode cX1_redeemAt 20 = .ok (.aload_n 0, 1) := by decide +kernel
theorem dX1_redeemAt_21 : decode cX1_redeemAt 21 = .ok (.getfield 17, 3) := by decide +kernel
theorem dX1_redeemAt_24 : decode cX1_redeemAt 24 = .ok (.iload_n 1, 1) := by decide +kernel
theorem dX1_redeemAt_25 : decode cX1_redeemAt 25 = .ok (.baload, 1) := by decide +kernel
theorem dX1_redeemAt_26 : decode cX1_redeemAt 26 = .ok (.ifCond .eq 5, 3) := by decide +kernel
theorem dX1_redeemAt_29 : decode cX1_redeemAt 29 = .ok (.iconst 0, 1) := by decide +kernel
theorem dX1_redeemAt_30 : decode cX1_redeemAt 30 = .ok (.ireturn, 1) := by decide +kernel
theorem dX1_redeemAt_31 : decode cX1_redeemAt 31 = .ok (.aload_n 0, 1) := by decide +kernel
theorem dX1_redeemAt_32 : decode cX1_redeemAt 32 = .ok (.getfield 17, 3) := by decide +kernel
theorem dX1_redeemAt_35 : decode cX1_redeemAt 35 = .ok (.iload_n 1, 1) := by decide +kernel
theorem dX1_redeemAt_36 : decode cX1_redeemAt 36 = .ok (.iconst 1, 1) := by decide +kernel
theorem dX1_redeemAt_37 : decode cX1_redeemAt 37 = .ok (.bastore, 1) := by decide +kernel
theorem dX1_redeemAt_38 : decode cX1_redeemAt 38 = .ok (.aload_n 0, 1) := by decide +kernel
theorem dX1_redeemAt_39 : decode cX1_redeemAt 39 = .ok (.getfield 21, 3) := by decide +kernel
theorem dX1_redeemAt_42 : decode cX1_redeemAt 42 = .ok (.iload_n 2, 1) := by decide +kernel
theorem dX1_redeemAt_43 : decode cX1_redeemAt 43 = .ok (.dup2, 1) := by decide +kernel
theorem dX1_redeemAt_44 : decode cX1_redeemAt 44 = .ok (.laload, 1) := by decide +kernel
theorem dX1_redeemAt_45 : decode cX1_redeemAt 45 = .ok (.aload_n 0, 1) := by decide +kernel
theorem dX1_redeemAt_46 : decode cX1_redeemAt 46 = .ok (.getfield 11, 3) := by decide +kernel
theorem dX1_redeemAt_49 : decode cX1_redeemAt 49 = .ok (.iload_n 1, 1) := by decide +kernel
theorem dX1_redeemAt_50 : decode cX1_redeemAt 50 = .ok (.iaload, 1) := by decide +kernel
theorem dX1_redeemAt_51 : decode cX1_redeemAt 51 = .ok (.i2l, 1) := by decide +kernel
theorem dX1_redeemAt_52 : decode cX1_redeemAt 52 = .ok (.ladd, 1) := by decide +kernel
theorem dX1_redeemAt_53 : decode cX1_redeemAt 53 = .ok (.lastore, 1) := by decide +kernel
theorem dX1_redeemAt_54 : decode cX1_redeemAt 54 = .ok (.iconst 1, 1) := by decide +kernel
theorem dX1_redeemAt_55 : decode cX1_redeemAt 55 = .ok (.ireturn, 1) := by decide +kernel
set_option maxRecDepth 20000 in
theorem ggX1_redeemedBy_X8_isIndex : GoodIn wsX1_redeemedBy wsX8_isIndex := goodIn_r _ [5] (by decide +kernel) (by decide +kernel)
set_option maxRecDepth 20000 in
theorem gX1_redeemedBy_X8_isIndex_n29 : GoodIn wsX1_redeemedBy (wsX8_isIndex) := ggX1_redeemedBy_X8_isIndex
theorem dX1_redeemedBy_0 : decode cX1_redeemedBy 0 = .ok (.iload_n 1, 1) := by decide +kernel
theorem dX1_redeemedBy_1 : decode cX1_redeemedBy 1 = .ok (.bipush 100, 2) := by decide +kernel
theorem dX1_redeemedBy_3 : decode cX1_redeemedBy 3 = .ok (.invokestatic 29, 3) := by decide +kernel
theorem dX1_redeemedBy_6 : decode cX1_redeemedBy 6 = .ok (.ifCond .eq 12, 3) := by decide +kernel
theorem dX1_redeemedBy_9 : decode cX1_redeemedBy 9 = .ok (.aload_n 0, 1) := by decide +kernel
theorem dX1_redeemedBy_10 : decode cX1_redeemedBy 10 = .ok (.getfield 21, 3) := by decide +kernel
theorem dX1_redeemedBy_13 : decode cX1_redeemedBy 13 = .ok (.iload_n 1, 1) := by decide +kernel
theorem dX1_redeemedBy_14 : decode cX1_redeemedBy 14 = .ok (.laload, 1) := by decide +kernel
theorem dX1_redeemedBy_15 : decode cX1_redeemedBy 15 = .ok (.goto 6, 3) := by decide +kernel
theorem dX1_redeemedBy_18 : decode cX1_redeemedBy 18 = .ok (.ldc2_w 33, 3) := by decide +kernel
theorem dX1_redeemedBy_21 : decode cX1_redeemedBy 21 = .ok (.lreturn, 1) := by decide +kernel
theorem dX2_init_0 : decode cX2_init 0 = .ok (.aload_n 0, 1) := by decide +kernel
theorem dX2_init_1 : decode cX2_init 1 = .ok (.invokespecial 3, 3) := by decide +kernel
theorem dX2_init_4 : decode cX2_init 4 = .ok (.aload_n 0, 1) := by decide +kernel
theorem dX2_init_5 : decode cX2_init 5 = .ok (.sipush 200, 3) := by decide +kernel
theorem dX2_init_8 : decode cX2_init 8 = .ok (.newarray .long, 2) := by decide +kernel
theorem dX2_init_10 : decode cX2_init 10 = .ok (.putfield 11, 3) := by decide +kernel
theorem dX2_init_13 : decode cX2_init 13 = .ok (.aload_n 0, 1) := by decide +kernel
theorem dX2_init_14 : decode cX2_init 14 = .ok (.sipush 200, 3) := by decide +kernel
theorem dX2_init_17 : decode cX2_init 17 = .ok (.newarray .int, 2) := by decide +kernel
theorem dX2_init_19 : decode cX2_init 19 = .ok (.putfield 17, 3) := by decide +kernel
theorem dX2_init_22 : decode cX2_init 22 = .ok (.aload_n 0, 1) := by decide +kernel
theorem dX2_init_23 : decode cX2_init 23 = .ok (.sipush 200, 3) := by decide +kernel
theorem dX2_init_26 : decode cX2_init 26 = .ok (.newarray .int, 2) := by decide +kernel
theorem dX2_init_28 : decode cX2_init 28 = .ok (.putfield 21, 3) := by decide +kernel
theorem dX2_init_31 : decode cX2_init 31 = .ok (.aload_n 0, 1) := by decide +kernel
theorem dX2_init_32 : decode cX2_init 32 = .ok (.iconst 0, 1) := by decide +kernel
theorem dX2_init_33 : decode cX2_init 33 = .ok (.putfield 24, 3) := by decide +kernel
theorem dX2_init_36 : decode cX2_init 36 = .ok (.return_, 1) := by decide +kernel
theorem dX2_size_0 : decode cX2_size 0 = .ok (.aload_n 0, 1) := by decide +kernel
theorem dX2_size_1 : decode cX2_size 1 = .ok (.getfield 24, 3) := by decide +kernel
theorem dX2_size_4 : decode cX2_size 4 = .ok (.ireturn, 1) := by decide +kernel
theorem dX2_insert_0 : decode cX2_insert 0 = .ok (.aload_n 0, 1) := by decide +kernel
theorem dX2_insert_1 : decode cX2_insert 1 = .ok (.getfield 24, 3) := by decide +kernel
theorem dX2_insert_4 : decode cX2_insert 4 = .ok (.sipush 200, 3) := by decide +kernel
theorem dX2_insert_7 : decode cX2_insert 7 = .ok (.if_icmp .ge 7, 3) := by decide +kernel
theorem dX2_insert_10 : decode cX2_insert 10 = .ok (.iload_n 1, 1) := by decide +kernel
theorem dX2_insert_11 : decode cX2_insert 11 = .ok (.ifCond .ge 4, 3) := by decide +kernel
theorem dX2_insert_14 : decode cX2_insert 14 = .ok (.return_, 1) := by decide +kernel
theorem dX2_insert_15 : decode cX2_insert 15 = .ok (.aload_n 0, 1) := by decide +kernel
theorem dX2_insert_16 : decode cX2_insert 16 = .ok (.getfield 24, 3) := by decide +kernel
theorem dX2_insert_19 : decode cX2_insert 19 = .ok (.istore 6, 2) := by decide +kernel
theorem dX2_insert_21 : decode cX2_insert 21 = .ok (.iload 6, 2) := by decide +kernel
theorem dX2_insert_23 : decode cX2_insert 23 = .ok (.iload_n 1, 1) := by decide +kernel
theorem dX2_insert_24 : decode cX2_insert 24 = .ok (.if_icmp .le 71, 3) := by decide +kernel
theorem dX2_insert_27 : decode cX2_insert 27 = .ok (.aload_n 0, 1) := by decide +kernel
theorem dX2_insert_28 : decode cX2_insert 28 = .ok (.getfield 11, 3) := by decide +kernel
theorem dX2_insert_31 : decode cX2_insert 31 = .ok (.iload 6, 2) := by decide +kernel
theorem dX2_insert_33 : decode cX2_insert 33 = .ok (.iconst 1, 1) := by decide +kernel
theorem dX2_insert_34 : decode cX2_insert 34 = .ok (.isub, 1) := by decide +kernel
theorem dX2_insert_35 : decode cX2_insert 35 = .ok (.laload, 1) := by decide +kernel
theorem dX2_insert_36 : decode cX2_insert 36 = .ok (.lload_n 2, 1) := by decide +kernel
theorem dX2_insert_37 : decode cX2_insert 37 = .ok (.lcmp, 1) := by decide +kernel
theorem dX2_insert_38 : decode cX2_insert 38 = .ok (.ifCond .le 57, 3) := by decide +kernel
theorem dX2_insert_41 : decode cX2_insert 41 = .ok (.aload_n 0, 1) := by decide +kernel
theorem dX2_insert_42 : decode cX2_insert 42 = .ok (.getfield 11, 3) := by decide +kernel
theorem dX2_insert_45 : decode cX2_insert 45 = .ok (.iload 6, 2) := by decide +kernel
theorem dX2_insert_47 : decode cX2_insert 47 = .ok (.aload_n 0, 1) := by decide +kernel
theorem dX2_insert_48 : decode cX2_insert 48 = .ok (.getfield 11, 3) := by decide +kernel
theorem dX2_insert_51 : decode cX2_insert 51 = .ok (.iload 6, 2) := by decide +kernel
theorem dX2_insert_53 : decode cX2_insert 53 = .ok (.iconst 1, 1) := by decide +kernel
theorem dX2_insert_54 : decode cX2_insert 54 = .ok (.isub, 1) := by decide +kernel
theorem dX2_insert_55 : decode cX2_insert 55 = .ok (.laload, 1) := by decide +kernel
theorem dX2_insert_56 : decode cX2_insert 56 = .ok (.lastore, 1) := by decide +kernel
theorem dX2_insert_57 : decode cX2_insert 57 = .ok (.aload_n 0, 1) := by decide +kernel
theorem dX2_insert_58 : decode cX2_insert 58 = .ok (.getfield 17, 3) := by decide +kernel
theorem dX2_insert_61 : decode cX2_insert 61 = .ok (.iload 6, 2) := by decide +kernel
theorem dX2_insert_63 : decode cX2_insert 63 = .ok (.aload_n 0, 1) := by decide +kernel
theorem dX2_insert_64 : decode cX2_insert 64 = .ok (.getfield 17, 3) := by decide +kernel
theorem dX2_insert_67 : decode cX2_insert 67 = .ok (.iload 6, 2) := by decide +kernel
theorem dX2_insert_69 : decode cX2_insert 69 = .ok (.iconst 1, 1) := by decide +kernel
theorem dX2_insert_70 : decode cX2_insert 70 = .ok (.isub, 1) := by decide +kernel
theorem dX2_insert_71 : decode cX2_insert 71 = .ok (.iaload, 1) := by decide +kernel
theorem dX2_insert_72 : decode cX2_insert 72 = .ok (.iastore, 1) := by decide +kernel
theorem dX2_insert_73 : decode cX2_insert 73 = .ok (.aload_n 0, 1) := by decide +kernel
theorem dX2_insert_74 : decode cX2_insert 74 = .ok (.getfield 21, 3) := by decide +kernel
theorem dX2_insert_77 : decode cX2_insert 77 = .ok (.iload 6, 2) := by decide +kernel
theorem dX2_insert_79 : decode cX2_insert 79 = .ok (.aload_n 0, 1) := by decide +kernel
theorem dX2_insert_80 : decode cX2_insert 80 = .ok (.getfield 21, 3) := by decide +kernel
theorem dX2_insert_83 : decode cX2_insert 83 = .ok (.iload 6, 2) := by decide +kernel
theorem dX2_insert_85 : decode cX2_insert 85 = .ok (.iconst 1, 1) := by decide +kernel
theorem dX2_insert_86 : decode cX2_insert 86 = .ok (.isub, 1) := by decide +kernel
theorem dX2_insert_87 : decode cX2_insert 87 = .ok (.iaload, 1) := by decide +kernel
theorem dX2_insert_88 : decode cX2_insert 88 = .ok (.iastore, 1) := by decide +kernel
theorem dX2_insert_89 : decode cX2_insert 89 = .ok (.iinc 6 (-1), 3) := by decide +kernel
theorem dX2_insert_92 : decode cX2_insert 92 = .ok (.goto (-71), 3) := by decide +kernel
theorem dX2_insert_95 : decode cX2_insert 95 = .ok (.aload_n 0, 1) := by decide +kernel
theorem dX2_insert_96 : decode cX2_insert 96 = .ok (.getfield 11, 3) := by decide +kernel
theorem dX2_insert_99 : decode cX2_insert 99 = .ok (.iload 6, 2) := by decide +kernel
theorem dX2_insert_101 : decode cX2_insert 101 = .ok (.lload_n 2, 1) := by decide +kernel
theorem dX2_insert_102 : decode cX2_insert 102 = .ok (.lastore, 1) := by decide +kernel
theorem dX2_insert_103 : decode cX2_insert 103 = .ok (.aload_n 0, 1) := by decide +kernel
theorem dX2_insert_104 : decode cX2_insert 104 = .ok (.getfield 17, 3) := by decide +kernel
theorem dX2_insert_107 : decode cX2_insert 107 = .ok (.iload 6, 2) := by decide +kernel
theorem dX2_insert_109 : decode cX2_insert 109 = .ok (.iload 4, 2) := by decide +kernel
theorem dX2_insert_111 : decode cX2_insert 111 = .ok (.iastore, 1) := by decide +kernel
theorem dX2_insert_112 : decode cX2_insert 112 = .ok (.aload_n 0, 1) := by decide +kernel
theorem dX2_insert_113 : decode cX2_insert 113 = .ok (.getfield 21, 3) := by decide +kernel
theorem dX2_insert_116 : decode cX2_insert 116 = .ok (.iload 6, 2) := by decide +kernel
theorem dX2_insert_118 : decode cX2_insert 118 = .ok (.iload 5, 2) := by decide +kernel
theorem dX2_insert_120 : decode cX2_insert 120 = .ok (.iastore, 1) := by decide +kernel
theorem dX2_insert_121 : decode cX2_insert 121 = .ok (.aload_n 0, 1) := by decide +kernel
theorem dX2_insert_122 : decode cX2_insert 122 = .ok (.dup, 1) := by decide +kernel
theorem dX2_insert_123 : decode cX2_insert 123 = .ok (.getfield 24, 3) := by decide +kernel
theorem dX2_insert_126 : decode cX2_insert 126 = .ok (.iconst 1, 1) := by decide +kernel
theorem dX2_insert_127 : decode cX2_insert 127 = .ok (.iadd, 1) := by decide +kernel
theorem dX2_insert_128 : decode cX2_insert 128 = .ok (.putfield 24, 3) := by decide +kernel
theorem dX2_insert_131 : decode cX2_insert 131 = .ok (.return_, 1) := by decide +kernel
set_option maxRecDepth 20000 in
theorem ggX2_part_X8_isIndex : GoodIn wsX2_part wsX8_isIndex := goodIn_r _ [7] (by decide +kernel) (by decide +kernel)
set_option maxRecDepth 20000 in
theorem gX2_part_X8_isIndex_n28 : GoodIn wsX2_part (wsX8_isIndex) := ggX2_part_X8_isIndex
set_option maxRecDepth 20000 in
theorem ggX2_part_X5_decimals : GoodIn wsX2_part wsX5_decimals := goodIn_r _ [11, 12] (by decide +kernel) (by decide +kernel)
set_option maxRecDepth 20000 in
theorem gX2_part_X5_decimals : GoodIn wsX2_part (va_wsS RX2 32 yX5_decimals wsX5_decimals) := goodIn_app (goodIn_of _ (by decide +kernel)) ggX2_part_X5_decimals
set_option maxRecDepth 20000 in
theorem ggX2_part_X5_decimalAt : GoodIn wsX2_part wsX5_decimalAt := goodIn_r _ [15, 12, 16, 9, 10, 11] (by decide +kernel) (by decide +kernel)
set_option maxRecDepth 20000 in
theorem gX2_part_X5_decimalAt : GoodIn wsX2_part (va_wsS RX2 38 yX5_decimalAt wsX5_decimalAt) := goodIn_app (goodIn_of _ (by decide +kernel)) ggX2_part_X5_decimalAt
theorem dX2_part_0 : decode cX2_part 0 = .ok (.iload_n 1, 1) := by decide +kernel
theorem dX2_part_1 : decode cX2_part 1 = .ok (.aload_n 0, 1) := by decide +kernel
theorem dX2_part_2 : decode cX2_part 2 = .ok (.getfield 24, 3) := by decide +kernel
theorem dX2_part_5 : decode cX2_part 5 = .ok (.invokestatic 28, 3) := by decide +kernel
theorem dX2_part_8 : decode cX2_part 8 = .ok (.ifCond .eq 7, 3) := by decide +kernel
theorem dX2_part_11 : decode cX2_part 11 = .ok (.iload_n 2, 1) := by decide +kernel
theorem dX2_part_12 : decode cX2_part 12 = .ok (.ifCond .ge 5, 3) := by decide +kernel
theorem dX2_part_15 : decode cX2_part 15 = .ok (.iconst (-1), 1) := by decide +kernel
theorem dX2_part_16 : decode cX2_part 16 = .ok (.ireturn, 1) := by decide +kernel
theorem dX2_part_17 : decode cX2_part 17 = .ok (.iload_n 2, 1) := by decide +kernel
theorem dX2_part_18 : decode cX2_part 18 = .ok (.tableswitch 50 0 2 #[26, 33, 40], 26) := by decide +kernel
theorem dX2_part_44 : decode cX2_part 44 = .ok (.aload_n 0, 1) := by decide +kernel
theorem dX2_part_45 : decode cX2_part 45 = .ok (.getfield 17, 3) := by decide +kernel
theorem dX2_part_48 : decode cX2_part 48 = .ok (.iload_n 1, 1) := by decide +kernel
theorem dX2_part_49 : decode cX2_part 49 = .ok (.iaload, 1) := by decide +kernel
theorem dX2_part_50 : decode cX2_part 50 = .ok (.ireturn, 1) := by decide +kernel
theorem dX2_part_51 : decode cX2_part 51 = .ok (.aload_n 0, 1) := by decide +kernel
theorem dX2_part_52 : decode cX2_part 52 = .ok (.getfield 21, 3) := by decide +kernel
theorem dX2_part_55 : decode cX2_part 55 = .ok (.iload_n 1, 1) := by decide +kernel
theorem dX2_part_56 : decode cX2_part 56 = .ok (.iaload, 1) := by decide +kernel
theorem dX2_part_57 : decode cX2_part 57 = .ok (.ireturn, 1) := by decide +kernel
theorem dX2_part_58 : decode cX2_part 58 = .ok (.aload_n 0, 1) := by decide +kernel
theorem dX2_part_59 : decode cX2_part 59 = .ok (.getfield 11, 3) := by decide +kernel
theorem dX2_part_62 : decode cX2_part 62 = .ok (.iload_n 1, 1) := by decide +kernel
theorem dX2_part_63 : decode cX2_part 63 = .ok (.laload, 1) := by decide +kernel
theorem dX2_part_64 : decode cX2_part 64 = .ok (.invokestatic 32, 3) := by decide +kernel
theorem dX2_part_67 : decode cX2_part 67 = .ok (.ireturn, 1) := by decide +kernel
theorem dX2_part_68 : decode cX2_part 68 = .ok (.aload_n 0, 1) := by decide +kernel
theorem dX2_part_69 : decode cX2_part 69 = .ok (.getfield 11, 3) := by decide +kernel
theorem dX2_part_72 : decode cX2_part 72 = .ok (.iload_n 1, 1) := by decide +kernel
theorem dX2_part_73 : decode cX2_part 73 = .ok (.laload, 1) := by decide +kernel
theorem dX2_part_74 : decode cX2_part 74 = .ok (.iload_n 2, 1) := by decide +kernel
theorem dX2_part_75 : decode cX2_part 75 = .ok (.iconst 3, 1) := by decide +kernel
theorem dX2_part_76 : decode cX2_part 76 = .ok (.isub, 1) := by decide +kernel
theorem dX2_part_77 : decode cX2_part 77 = .ok (.invokestatic 38, 3) := by decide +kernel
theorem dX2_part_80 : decode cX2_part 80 = .ok (.ireturn, 1) := by decide +kernel
theorem dX3_init_0 : decode cX3_init 0 = .ok (.aload_n 0, 1) := by decide +kernel
theorem dX3_init_1 : decode cX3_init 1 = .ok (.invokespecial 5, 3) := by decide +kernel
theorem dX3_init_4 : decode cX3_init 4 = .ok (.aload_n 0, 1) := by decide +kernel
theorem dX3_init_5 : decode cX3_init 5 = .ok (.sipush 170, 3) := by decide +kernel
theorem dX3_init_8 : decode cX3_init 8 = .ok (.newarray .int, 2) := by decide +kernel
theorem dX3_init_10 : decode cX3_init 10 = .ok (.putfield 11, 3) := by decide +kernel
theorem dX3_init_13 : decode cX3_init 13 = .ok (.aload_n 0, 1) := by decide +kernel
theorem dX3_init_14 : decode cX3_init 14 = .ok (.iconst 0, 1) := by decide +kernel
theorem dX3_init_15 : decode cX3_init 15 = .ok (.putfield 15, 3) := by decide +kernel
theorem dX3_init_18 : decode cX3_init 18 = .ok (.return_, 1) := by decide +kernel
theorem dX3_add_0 : decode cX3_add 0 = .ok (.aload_n 0, 1) := by decide +kernel
theorem dX3_add_1 : decode cX3_add 1 = .ok (.getfield 15, 3) := by decide +kernel
theorem dX3_add_4 : decode cX3_add 4 = .ok (.sipush 170, 3) := by decide +kernel
theorem dX3_add_7 : decode cX3_add 7 = .ok (.if_icmp .ge 23, 3) := by decide +kernel
theorem dX3_add_10 : decode cX3_add 10 = .ok (.aload_n 0, 1) := by decide +kernel
theorem dX3_add_11 : decode cX3_add 11 = .ok (.getfield 11, 3) := by decide +kernel
theorem dX3_add_14 : decode cX3_add 14 = .ok (.aload_n 0, 1) := by decide +kernel
theorem dX3_add_15 : decode cX3_add 15 = .ok (.getfield 15, 3) := by decide +kernel
theorem dX3_add_18 : decode cX3_add 18 = .ok (.iload_n 1, 1) := by decide +kernel
theorem dX3_add_19 : decode cX3_add 19 = .ok (.iastore, 1) := by decide +kernel
theorem dX3_add_20 : decode cX3_add 20 = .ok (.aload_n 0, 1) := by decide +kernel
theorem dX3_add_21 : decode cX3_add 21 = .ok (.dup, 1) := by decide +kernel
theorem dX3_add_22 : decode cX3_add 22 = .ok (.getfield 15, 3) := by decide +kernel
theorem dX3_add_25 : decode cX3_add 25 = .ok (.iconst 1, 1) := by decide +kernel
theorem dX3_add_26 : decode cX3_add 26 = .ok (.iadd, 1) := by decide +kernel
theorem dX3_add_27 : decode cX3_add 27 = .ok (.putfield 15, 3) := by decide +kernel
theorem dX3_add_30 : decode cX3_add 30 = .ok (.return_, 1) := by decide +kernel
set_option maxRecDepth 20000 in
theorem ggX3_machineOf_X8_isIndex : GoodIn wsX3_machineOf wsX8_isIndex := goodIn_r _ [5] (by decide +kernel) (by decide +kernel)
set_option maxRecDepth 20000 in
theorem gX3_machineOf_X8_isIndex_n19 : GoodIn wsX3_machineOf (wsX8_isIndex) := ggX3_machineOf_X8_isIndex
theorem dX3_machineOf_0 : decode cX3_machineOf 0 = .ok (.iload_n 1, 1) := by decide +kernel
theorem dX3_machineOf_1 : decode cX3_machineOf 1 = .ok (.aload_n 0, 1) := by decide +kernel
theorem dX3_machineOf_2 : decode cX3_machineOf 2 = .ok (.getfield 15, 3) := by decide +kernel
theorem dX3_machineOf_5 : decode cX3_machineOf 5 = .ok (.invokestatic 19, 3) := by decide +kernel
theorem dX3_machineOf_8 : decode cX3_machineOf 8 = .ok (.ifCond .eq 12, 3) := by decide +kernel
theorem dX3_machineOf_11 : decode cX3_machineOf 11 = .ok (.aload_n 0, 1) := by decide +kernel
theorem dX3_machineOf_12 : decode cX3_machineOf 12 = .ok (.getfield 11, 3) := by decide +kernel
theorem dX3_machineOf_15 : decode cX3_machineOf 15 = .ok (.iload_n 1, 1) := by decide +kernel
theorem dX3_machineOf_16 : decode cX3_machineOf 16 = .ok (.iaload, 1) := by decide +kernel
theorem dX3_machineOf_17 : decode cX3_machineOf 17 = .ok (.goto 4, 3) := by decide +kernel
theorem dX3_machineOf_20 : decode cX3_machineOf 20 = .ok (.iconst (-1), 1) := by decide +kernel
theorem dX3_machineOf_21 : decode cX3_machineOf 21 = .ok (.ireturn, 1) := by decide +kernel
theorem dX4_init_0 : decode cX4_init 0 = .ok (.aload_n 0, 1) := by decide +kernel
theorem dX4_init_1 : decode cX4_init 1 = .ok (.invokespecial 3, 3) := by decide +kernel
theorem dX4_init_4 : decode cX4_init 4 = .ok (.aload_n 0, 1) := by decide +kernel
theorem dX4_init_5 : decode cX4_init 5 = .ok (.bipush 6, 2) := by decide +kernel
theorem dX4_init_7 : decode cX4_init 7 = .ok (.newarray .boolean, 2) := by decide +kernel
theorem dX4_init_9 : decode cX4_init 9 = .ok (.putfield 11, 3) := by decide +kernel
theorem dX4_init_12 : decode cX4_init 12 = .ok (.aload_n 0, 1) := by decide +kernel
theorem dX4_init_13 : decode cX4_init 13 = .ok (.bipush 6, 2) := by decide +kernel
theorem dX4_init_15 : decode cX4_init 15 = .ok (.newarray .boolean, 2) := by decide +kernel
theorem dX4_init_17 : decode cX4_init 17 = .ok (.putfield 15, 3) := by decide +kernel
theorem dX4_init_20 : decode cX4_init 20 = .ok (.aload_n 0, 1) := by decide +kernel
theorem dX4_init_21 : decode cX4_init 21 = .ok (.bipush 6, 2) := by decide +kernel
theorem dX4_init_23 : decode cX4_init 23 = .ok (.newarray .int, 2) := by decide +kernel
theorem dX4_init_25 : decode cX4_init 25 = .ok (.putfield 18, 3) := by decide +kernel
theorem dX4_init_28 : decode cX4_init 28 = .ok (.aload_n 0, 1) := by decide +kernel
theorem dX4_init_29 : decode cX4_init 29 = .ok (.bipush 6, 2) := by decide +kernel
theorem dX4_init_31 : decode cX4_init 31 = .ok (.newarray .int, 2) := by decide +kernel
theorem dX4_init_33 : decode cX4_init 33 = .ok (.putfield 22, 3) := by decide +kernel
theorem dX4_init_36 : decode cX4_init 36 = .ok (.aload_n 0, 1) := by decide +kernel
theorem dX4_init_37 : decode cX4_init 37 = .ok (.iconst 0, 1) := by decide +kernel
theorem dX4_init_38 : decode cX4_init 38 = .ok (.putfield 25, 3) := by decide +kernel
theorem dX4_init_41 : decode cX4_init 41 = .ok (.return_, 1) := by decide +kernel
theorem dX4_addMachine_0 : decode cX4_addMachine 0 = .ok (.aload_n 0, 1) := by decide +kernel
theorem dX4_addMachine_1 : decode cX4_addMachine 1 = .ok (.getfield 25, 3) := by decide +kernel
theorem dX4_addMachine_4 : decode cX4_addMachine 4 = .ok (.bipush 6, 2) := by decide +kernel
theorem dX4_addMachine_6 : decode cX4_addMachine 6 = .ok (.if_icmp .lt 5, 3) := by decide +kernel
theorem dX4_addMachine_9 : decode cX4_addMachine 9 = .ok (.iconst (-1), 1) := by decide +kernel
theorem dX4_addMachine_10 : decode cX4_addMachine 10 = .ok (.ireturn, 1) := by decide +kernel
theorem dX4_addMachine_11 : decode cX4_addMachine 11 = .ok (.aload_n 0, 1) := by decide +kernel
theorem dX4_addMachine_12 : decode cX4_addMachine 12 = .ok (.getfield 25, 3) := by decide +kernel
theorem dX4_addMachine_15 : decode cX4_addMachine 15 = .ok (.istore_n 1, 1) := by decide +kernel
theorem dX4_addMachine_16 : decode cX4_addMachine 16 = .ok (.aload_n 0, 1) := by decide +kernel
theorem dX4_addMachine_17 : decode cX4_addMachine 17 = .ok (.getfield 15, 3) := by decide +kernel
theorem dX4_addMachine_20 : decode cX4_addMachine 20 = .ok (.iload_n 1, 1) := by decide +kernel
theorem dX4_addMachine_21 : decode cX4_addMachine 21 = .ok (.iconst 1, 1) := by decide +kernel
theorem dX4_addMachine_22 : decode cX4_addMachine 22 = .ok (.bastore, 1) := by decide +kernel
theorem dX4_addMachine_23 : decode cX4_addMachine 23 = .ok (.aload_n 0, 1) := by decide +kernel
theorem dX4_addMachine_24 : decode cX4_addMachine 24 = .ok (.getfield 18, 3) := by decide +kernel
theorem dX4_addMachine_27 : decode cX4_addMachine 27 = .ok (.iload_n 1, 1) := by decide +kernel
theorem dX4_addMachine_28 : decode cX4_addMachine 28 = .ok (.iload_n 1, 1) := by decide +kernel
theorem dX4_addMachine_29 : decode cX4_addMachine 29 = .ok (.iastore, 1) := by decide +kernel
theorem dX4_addMachine_30 : decode cX4_addMachine 30 = .ok (.aload_n 0, 1) := by decide +kernel
theorem dX4_addMachine_31 : decode cX4_addMachine 31 = .ok (.dup, 1) := by decide +kernel
theorem dX4_addMachine_32 : decode cX4_addMachine 32 = .ok (.getfield 25, 3) := by decide +kernel
theorem dX4_addMachine_35 : decode cX4_addMachine 35 = .ok (.iconst 1, 1) := by decide +kernel
theorem dX4_addMachine_36 : decode cX4_addMachine 36 = .ok (.iadd, 1) := by decide +kernel
theorem dX4_addMachine_37 : decode cX4_addMachine 37 = .ok (.putfield 25, 3) := by decide +kernel
theorem dX4_addMachine_40 : decode cX4_addMachine 40 = .ok (.iload_n 1, 1) := by decide +kernel
theorem dX4_addMachine_41 : decode cX4_addMachine 41 = .ok (.ireturn, 1) := by decide +kernel
set_option maxRecDepth 20000 in
theorem ggX4_exists_X8_isIndex : GoodIn wsX4_exists wsX8_isIndex := goodIn_r _ [4] (by decide +kernel) (by decide +kernel)
set_option maxRecDepth 20000 in
theorem gX4_exists_X8_isIndex_n29 : GoodIn wsX4_exists (wsX8_isIndex) := ggX4_exists_X8_isIndex
theorem dX4_exists_0 : decode cX4_exists 0 = .ok (.iload_n 1, 1) := by decide +kernel
theorem dX4_exists_1 : decode cX4_exists 1 = .ok (.aload_n 0, 1) := by decide +kernel
theorem dX4_exists_2 : decode cX4_exists 2 = .ok (.getfield 25, 3) := by decide +kernel
theorem dX4_exists_5 : decode cX4_exists 5 = .ok (.invokestatic 29, 3) := by decide +kernel
theorem dX4_exists_8 : decode cX4_exists 8 = .ok (.ireturn, 1) := by decide +kernel
set_option maxRecDepth 20000 in
theorem ggX4_setFull_X4_exists : GoodIn wsX4_setFull wsX4_exists := goodIn_r _ [6, 7, 8, 9, 10, 11, 12, 13, 14, 15] (by decide +kernel) (by decide +kernel)
set_option maxRecDepth 20000 in
theorem gX4_setFull_X4_exists : GoodIn wsX4_setFull (wsV RX4 33 RX4 yX4_exists wsX4_exists) := goodIn_app (goodIn_of _ (by decide +kernel)) ggX4_setFull_X4_exists
theorem dX4_setFull_0 : decode cX4_setFull 0 = .ok (.aload_n 0, 1) := by decide +kernel
theorem dX4_setFull_1 : decode cX4_setFull 1 = .ok (.iload_n 1, 1) := by decide +kernel
theorem dX4_setFull_2 : decode cX4_setFull 2 = .ok (.invokevirtual 33, 3) := by decide +kernel
theorem dX4_setFull_5 : decode cX4_setFull 5 = .ok (.ifCond .ne 5, 3) := by decide +kernel
theorem dX4_setFull_8 : decode cX4_setFull 8 = .ok (.iconst 0, 1) := by decide +kernel
theorem dX4_setFull_9 : decode cX4_setFull 9 = .ok (.ireturn, 1) := by decide +kernel
theorem dX4_setFull_10 : decode cX4_setFull 10 = .ok (.aload_n 0, 1) := by decide +kernel
theorem dX4_setFull_11 : decode cX4_setFull 11 = .ok (.getfield 11, 3) := by decide +kernel
theorem dX4_setFull_14 : decode cX4_setFull 14 = .ok (.iload_n 1, 1) := by decide +kernel
theorem dX4_setFull_15 : decode cX4_setFull 15 = .ok (.iload_n 2, 1) := by decide +kernel
theorem dX4_setFull_16 : decode cX4_setFull 16 = .ok (.bastore, 1) := by decide +kernel
theorem dX4_setFull_17 : decode cX4_setFull 17 = .ok (.iconst 1, 1) := by decide +kernel
theorem dX4_setFull_18 : decode cX4_setFull 18 = .ok (.ireturn, 1) := by decide +kernel
set_option maxRecDepth 20000 in
theorem ggX4_setPower_X4_exists : GoodIn wsX4_setPower wsX4_exists := goodIn_r _ [6, 7, 8, 9, 10, 11, 12, 13, 14, 15] (by decide +kernel) (by decide +kernel)
set_option maxRecDepth 20000 in
theorem gX4_setPower_X4_exists : GoodIn wsX4_setPower (wsV RX4 33 RX4 yX4_exists wsX4_exists) := goodIn_app (goodIn_of _ (by decide +kernel)) ggX4_setPower_X4_exists
theorem dX4_setPower_0 : decode cX4_setPower 0 = .ok (.aload_n 0, 1) := by decide +kernel
theorem dX4_setPower_1 : decode cX4_setPower 1 = .ok (.iload_n 1, 1) := by decide +kernel
theorem dX4_setPower_2 : decode cX4_setPower 2 = .ok (.invokevirtual 33, 3) := by decide +kernel
theorem dX4_setPower_5 : decode cX4_setPower 5 = .ok (.ifCond .ne 5, 3) := by decide +kernel
theorem dX4_setPower_8 : decode cX4_setPower 8 = .ok (.iconst 0, 1) := by decide +kernel
theorem dX4_setPower_9 : decode cX4_setPower 9 = .ok (.ireturn, 1) := by decide +kernel
theorem dX4_setPower_10 : decode cX4_setPower 10 = .ok (.aload_n 0, 1) := by decide +kernel
theorem dX4_setPower_11 : decode cX4_setPower 11 = .ok (.getfield 15, 3) := by decide +kernel
theorem dX4_setPower_14 : decode cX4_setPower 14 = .ok (.iload_n 1, 1) := by decide +kernel
theorem dX4_setPower_15 : decode cX4_setPower 15 = .ok (.iload_n 2, 1) := by decide +kernel
theorem dX4_setPower_16 : decode cX4_setPower 16 = .ok (.bastore, 1) := by decide +kernel
theorem dX4_setPower_17 : decode cX4_setPower 17 = .ok (.iconst 1, 1) := by decide +kernel
theorem dX4_setPower_18 : decode cX4_setPower 18 = .ok (.ireturn, 1) := by decide +kernel
set_option maxRecDepth 20000 in
theorem ggX4_isFull_X4_exists : GoodIn wsX4_isFull wsX4_exists := goodIn_r _ [6, 7, 8, 9, 10, 11, 12, 13, 14, 15] (by decide +kernel) (by decide +kernel)
set_option maxRecDepth 20000 in
theorem gX4_isFull_X4_exists : GoodIn wsX4_isFull (wsV RX4 33 RX4 yX4_exists wsX4_exists) := goodIn_app (goodIn_of _ (by decide +kernel)) ggX4_isFull_X4_exists
theorem dX4_isFull_0 : decode cX4_isFull 0 = .ok (.aload_n 0, 1) := by decide +kernel
theorem dX4_isFull_1 : decode cX4_isFull 1 = .ok (.iload_n 1, 1) := by decide +kernel
theorem dX4_isFull_2 : decode cX4_isFull 2 = .ok (.invokevirtual 33, 3) := by decide +kernel
theorem dX4_isFull_5 : decode cX4_isFull 5 = .ok (.ifCond .eq 16, 3) := by decide +kernel
theorem dX4_isFull_8 : decode cX4_isFull 8 = .ok (.aload_n 0, 1) := by decide +kernel
theorem dX4_isFull_9 : decode cX4_isFull 9 = .ok (.getfield 11, 3) := by decide +kernel
theorem dX4_isFull_12 : decode cX4_isFull 12 = .ok (.iload_n 1, 1) := by decide +kernel
theorem dX4_isFull_13 : decode cX4_isFull 13 = .ok (.baload, 1) := by decide +kernel
theorem dX4_isFull_14 : decode cX4_isFull 14 = .ok (.ifCond .eq 7, 3) := by decide +kernel
theorem dX4_isFull_17 : decode cX4_isFull 17 = .ok (.iconst 1, 1) := by decide +kernel
theorem dX4_isFull_18 : decode cX4_isFull 18 = .ok (.goto 4, 3) := by decide +kernel
theorem dX4_isFull_21 : decode cX4_isFull 21 = .ok (.iconst 0, 1) := by decide +kernel
theorem dX4_isFull_22 : decode cX4_isFull 22 = .ok (.ireturn, 1) := by decide +kernel
set_option maxRecDepth 20000 in
theorem ggX4_hasPower_X4_exists : GoodIn wsX4_hasPower wsX4_exists := goodIn_r _ [6, 7, 8, 9, 10, 11, 12, 13, 14, 15] (by decide +kernel) (by decide +kernel)
set_option maxRecDepth 20000 in
theorem gX4_hasPower_X4_exists : GoodIn wsX4_hasPower (wsV RX4 33 RX4 yX4_exists wsX4_exists) := goodIn_app (goodIn_of _ (by decide +kernel)) ggX4_hasPower_X4_exists
theorem dX4_hasPower_0 : decode cX4_hasPower 0 = .ok (.aload_n 0, 1) := by decide +kernel
theorem dX4_hasPower_1 : decode cX4_hasPower 1 = .ok (.iload_n 1, 1) := by decide +kernel
theorem dX4_hasPower_2 : decode cX4_hasPower 2 = .ok (.invokevirtual 33, 3) := by decide +kernel
theorem dX4_hasPower_5 : decode cX4_hasPower 5 = .ok (.ifCond .eq 16, 3) := by decide +kernel
theorem dX4_hasPower_8 : decode cX4_hasPower 8 = .ok (.aload_n 0, 1) := by decide +kernel
theorem dX4_hasPower_9 : decode cX4_hasPower 9 = .ok (.getfield 15, 3) := by decide +kernel
theorem dX4_hasPower_12 : decode cX4_hasPower 12 = .ok (.iload_n 1, 1) := by decide +kernel
theorem dX4_hasPower_13 : decode cX4_hasPower 13 = .ok (.baload, 1) := by decide +kernel
theorem dX4_hasPower_14 : decode cX4_hasPower 14 = .ok (.ifCond .eq 7, 3) := by decide +kernel
theorem dX4_hasPower_17 : decode cX4_hasPower 17 = .ok (.iconst 1, 1) := by decide +kernel
theorem dX4_hasPower_18 : decode cX4_hasPower 18 = .ok (.goto 4, 3) := by decide +kernel
theorem dX4_hasPower_21 : decode cX4_hasPower 21 = .ok (.iconst 0, 1) := by decide +kernel
theorem dX4_hasPower_22 : decode cX4_hasPower 22 = .ok (.ireturn, 1) := by decide +kernel
set_option maxRecDepth 20000 in
theorem ggX4_setOf_X4_exists : GoodIn wsX4_setOf wsX4_exists := goodIn_r _ [6, 7, 8, 9, 10, 11, 12, 13, 14, 15] (by decide +kernel) (by decide +kernel)
set_option maxRecDepth 20000 in
theorem gX4_setOf_X4_exists : GoodIn wsX4_setOf (wsV RX4 33 RX4 yX4_exists wsX4_exists) := goodIn_app (goodIn_of _ (by decide +kernel)) ggX4_setOf_X4_exists
theorem dX4_setOf_0 : decode cX4_setOf 0 = .ok (.aload_n 0, 1) := by decide +kernel
theorem dX4_setOf_1 : decode cX4_setOf 1 = .ok (.iload_n 1, 1) := by decide +kernel
theorem dX4_setOf_2 : decode cX4_setOf 2 = .ok (.invokevirtual 33, 3) := by decide +kernel
theorem dX4_setOf_5 : decode cX4_setOf 5 = .ok (.ifCond .eq 12, 3) := by decide +kernel
theorem dX4_setOf_8 : decode cX4_setOf 8 = .ok (.aload_n 0, 1) := by decide +kernel
theorem dX4_setOf_9 : decode cX4_setOf 9 = .ok (.getfield 18, 3) := by decide +kernel
theorem dX4_setOf_12 : decode cX4_setOf 12 = .ok (.iload_n 1, 1) := by decide +kernel
theorem dX4_setOf_13 : decode cX4_setOf 13 = .ok (.iaload, 1) := by decide +kernel
theorem dX4_setOf_14 : decode cX4_setOf 14 = .ok (.goto 4, 3) := by decide +kernel
theorem dX4_setOf_17 : decode cX4_setOf 17 = .ok (.iconst (-1), 1) := by decide +kernel
theorem dX4_setOf_18 : decode cX4_setOf 18 = .ok (.ireturn, 1) := by decide +kernel
theorem dX4_moveSet_0 : decode cX4_moveSet 0 = .ok (.iconst 0, 1) := by decide +kernel
theorem dX4_moveSet_1 : decode cX4_moveSet 1 = .ok (.istore_n 3, 1) := by decide +kernel
theorem dX4_moveSet_2 : decode cX4_moveSet 2 = .ok (.iload_n 3, 1) := by decide +kernel
theorem dX4_moveSet_3 : decode cX4_moveSet 3 = .ok (.aload_n 0, 1) := by decide +kernel
theorem dX4_moveSet_4 : decode cX4_moveSet 4 = .ok (.getfield 25, 3) := by decide +kernel
theorem dX4_moveSet_7 : decode cX4_moveSet 7 = .ok (.if_icmp .ge 26, 3) := by decide +kernel
theorem dX4_moveSet_10 : decode cX4_moveSet 10 = .ok (.aload_n 0, 1) := by decide +kernel
theorem dX4_moveSet_11 : decode cX4_moveSet 11 = .ok (.getfield 18, 3) := by decide +kernel
theorem dX4_moveSet_14 : decode cX4_moveSet 14 = .ok (.iload_n 3, 1) := by decide +kernel
theorem dX4_moveSet_15 : decode cX4_moveSet 15 = .ok (.iaload, 1) := by decide +kernel
theorem dX4_moveSet_16 : decode cX4_moveSet 16 = .ok (.iload_n 1, 1) := by decide +kernel
theorem dX4_moveSet_17 : decode cX4_moveSet 17 = .ok (.if_icmp .ne 10, 3) := by decide +kernel
theorem dX4_moveSet_20 : decode cX4_moveSet 20 = .ok (.aload_n 0, 1) := by decide +kernel
theorem dX4_moveSet_21 : decode cX4_moveSet 21 = .ok (.getfield 18, 3) := by decide +kernel
theorem dX4_moveSet_24 : decode cX4_moveSet 24 = .ok (.iload_n 3, 1) := by decide +kernel
theorem dX4_moveSet_25 : decode cX4_moveSet 25 = .ok (.iload_n 2, 1) := by decide +kernel
theorem dX4_moveSet_26 : decode cX4_moveSet 26 = .ok (.iastore, 1) := by decide +kernel
theorem dX4_moveSet_27 : decode cX4_moveSet 27 = .ok (.iinc 3 1, 3) := by decide +kernel
theorem dX4_moveSet_30 : decode cX4_moveSet 30 = .ok (.goto (-28), 3) := by decide +kernel
theorem dX4_moveSet_33 : decode cX4_moveSet 33 = .ok (.return_, 1) := by decide +kernel
set_option maxRecDepth 20000 in
theorem ggX4_addUnprinted_X4_exists : GoodIn wsX4_addUnprinted wsX4_exists := goodIn_r _ [6, 7, 8, 9, 10, 11, 12, 13, 14, 15] (by decide +kernel) (by decide +kernel)
set_option maxRecDepth 20000 in
theorem gX4_addUnprinted_X4_exists : GoodIn wsX4_addUnprinted (wsV RX4 33 RX4 yX4_exists wsX4_exists) := goodIn_app (goodIn_of _ (by decide +kernel)) ggX4_addUnprinted_X4_exists
theorem dX4_addUnprinted_0 : decode cX4_addUnprinted 0 = .ok (.aload_n 0, 1) := by decide +kernel
theorem dX4_addUnprinted_1 : decode cX4_addUnprinted 1 = .ok (.iload_n 1, 1) := by decide +kernel
theorem dX4_addUnprinted_2 : decode cX4_addUnprinted 2 = .ok (.invokevirtual 33, 3) := by decide +kernel
theorem dX4_addUnprinted_5 : decode cX4_addUnprinted 5 = .ok (.ifCond .eq 13, 3) := by decide +kernel
theorem dX4_addUnprinted_8 : decode cX4_addUnprinted 8 = .ok (.aload_n 0, 1) := by decide +kernel
theorem dX4_addUnprinted_9 : decode cX4_addUnprinted 9 = .ok (.getfield 22, 3) := by decide +kernel
theorem dX4_addUnprinted_12 : decode cX4_addUnprinted 12 = .ok (.iload_n 1, 1) := by decide +kernel
theorem dX4_addUnprinted_13 : decode cX4_addUnprinted 13 = .ok (.dup2, 1) := by decide +kernel
theorem dX4_addUnprinted_14 : decode cX4_addUnprinted 14 = .ok (.iaload, 1) := by decide +kernel
theorem dX4_addUnprinted_15 : decode cX4_addUnprinted 15 = .ok (.iconst 1, 1) := by decide +kernel
theorem dX4_addUnprinted_16 : decode cX4_addUnprinted 16 = .ok (.iadd, 1) := by decide +kernel
theorem dX4_addUnprinted_17 : decode cX4_addUnprinted 17 = .ok (.iastore, 1) := by decide +kernel
theorem dX4_addUnprinted_18 : decode cX4_addUnprinted 18 = .ok (.return_, 1) := by decide +kernel
set_option maxRecDepth 20000 in
theorem ggX4_takeUnprinted_X4_exists : GoodIn wsX4_takeUnprinted wsX4_exists := goodIn_r _ [6, 7, 8, 9, 10, 11, 12, 13, 14, 15] (by decide +kernel) (by decide +kernel)
set_option maxRecDepth 20000 in
theorem gX4_takeUnprinted_X4_exists : GoodIn wsX4_takeUnprinted (wsV RX4 33 RX4 yX4_exists wsX4_exists) := goodIn_app (goodIn_of _ (by decide +kernel)) ggX4_takeUnprinted_X4_exists
theorem dX4_takeUnprinted_0 : decode cX4_takeUnprinted 0 = .ok (.aload_n 0, 1) := by decide +kernel
theorem dX4_takeUnprinted_1 : decode cX4_takeUnprinted 1 = .ok (.iload_n 1, 1) := by decide +kernel
theorem dX4_takeUnprinted_2 : decode cX4_takeUnprinted 2 = .ok (.invokevirtual 33, 3) := by decide +kernel
theorem dX4_takeUnprinted_5 : decode cX4_takeUnprinted 5 = .ok (.ifCond .ne 5, 3) := by decide +kernel
theorem dX4_takeUnprinted_8 : decode cX4_takeUnprinted 8 = .ok (.iconst 0, 1) := by decide +kernel
theorem dX4_takeUnprinted_9 : decode cX4_takeUnprinted 9 = .ok (.ireturn, 1) := by decide +kernel
theorem dX4_takeUnprinted_10 : decode cX4_takeUnprinted 10 = .ok (.aload_n 0, 1) := by decide +kernel
theorem dX4_takeUnprinted_11 : decode cX4_takeUnprinted 11 = .ok (.getfield 22, 3) := by decide +kernel
theorem dX4_takeUnprinted_14 : decode cX4_takeUnprinted 14 = .ok (.iload_n 1, 1) := by decide +kernel
theorem dX4_takeUnprinted_15 : decode cX4_takeUnprinted 15 = .ok (.iaload, 1) := by decide +kernel
theorem dX4_takeUnprinted_16 : decode cX4_takeUnprinted 16 = .ok (.istore_n 2, 1) := by decide +kernel
theorem dX4_takeUnprinted_17 : decode cX4_takeUnprinted 17 = .ok (.aload_n 0, 1) := by decide +kernel
theorem dX4_takeUnprinted_18 : decode cX4_takeUnprinted 18 = .ok (.getfield 22, 3) := by decide +kernel
theorem dX4_takeUnprinted_21 : decode cX4_takeUnprinted 21 = .ok (.iload_n 1, 1) := by decide +kernel
theorem dX4_takeUnprinted_22 : decode cX4_takeUnprinted 22 = .ok (.iconst 0, 1) := by decide +kernel
theorem dX4_takeUnprinted_23 : decode cX4_takeUnprinted 23 = .ok (.iastore, 1) := by decide +kernel
theorem dX4_takeUnprinted_24 : decode cX4_takeUnprinted 24 = .ok (.iload_n 2, 1) := by decide +kernel
theorem dX4_takeUnprinted_25 : decode cX4_takeUnprinted 25 = .ok (.ireturn, 1) := by decide +kernel
theorem dX5_isNumber_0 : decode cX5_isNumber 0 = .ok (.lload_n 0, 1) := by decide +kernel
theorem dX5_isNumber_1 : decode cX5_isNumber 1 = .ok (.lconst 0, 1) := by decide +kernel
theorem dX5_isNumber_2 : decode cX5_isNumber 2 = .ok (.lcmp, 1) := by decide +kernel
theorem dX5_isNumber_3 : decode cX5_isNumber 3 = .ok (.ifCond .lt 15, 3) := by decide +kernel
theorem dX5_isNumber_6 : decode cX5_isNumber 6 = .ok (.lload_n 0, 1) := by decide +kernel
theorem dX5_isNumber_7 : decode cX5_isNumber 7 = .ok (.ldc2_w 11, 3) := by decide +kernel
theorem dX5_isNumber_10 : decode cX5_isNumber 10 = .ok (.lcmp, 1) := by decide +kernel
theorem dX5_isNumber_11 : decode cX5_isNumber 11 = .ok (.ifCond .gt 7, 3) := by decide +kernel
theorem dX5_isNumber_14 : decode cX5_isNumber 14 = .ok (.iconst 1, 1) := by decide +kernel
theorem dX5_isNumber_15 : decode cX5_isNumber 15 = .ok (.goto 4, 3) := by decide +kernel
theorem dX5_isNumber_18 : decode cX5_isNumber 18 = .ok (.iconst 0, 1) := by decide +kernel
theorem dX5_isNumber_19 : decode cX5_isNumber 19 = .ok (.ireturn, 1) := by decide +kernel
set_option maxRecDepth 20000 in
theorem ggX5_isKind_X8_isIndex : GoodIn wsX5_isKind wsX8_isIndex := goodIn_r _ [3] (by decide +kernel) (by decide +kernel)
set_option maxRecDepth 20000 in
theorem gX5_isKind_X8_isIndex_n13 : GoodIn wsX5_isKind (wsX8_isIndex) := ggX5_isKind_X8_isIndex
theorem dX5_isKind_0 : decode cX5_isKind 0 = .ok (.iload_n 0, 1) := by decide +kernel
theorem dX5_isKind_1 : decode cX5_isKind 1 = .ok (.iconst 2, 1) := by decide +kernel
theorem dX5_isKind_2 : decode cX5_isKind 2 = .ok (.invokestatic 13, 3) := by decide +kernel
theorem dX5_isKind_5 : decode cX5_isKind 5 = .ok (.ireturn, 1) := by decide +kernel
set_option maxRecDepth 20000 in
theorem ggX5_checkDigit_X5_weighed : GoodIn wsX5_checkDigit wsX5_weighed := goodIn_r _ [5] (by decide +kernel) (by decide +kernel)
set_option maxRecDepth 20000 in
theorem gX5_checkDigit_X5_weighed : GoodIn wsX5_checkDigit (va_wsS RX5 19 yX5_weighed wsX5_weighed) := goodIn_app (goodIn_of _ (by decide +kernel)) ggX5_checkDigit_X5_weighed
theorem dX5_checkDigit_0 : decode cX5_checkDigit 0 = .ok (.iconst 0, 1) := by decide +kernel
theorem dX5_checkDigit_1 : decode cX5_checkDigit 1 = .ok (.istore_n 3, 1) := by decide +kernel
theorem dX5_checkDigit_2 : decode cX5_checkDigit 2 = .ok (.lload_n 1, 1) := by decide +kernel
theorem dX5_checkDigit_3 : decode cX5_checkDigit 3 = .ok (.lstore 4, 2) := by decide +kernel
theorem dX5_checkDigit_5 : decode cX5_checkDigit 5 = .ok (.iconst 0, 1) := by decide +kernel
theorem dX5_checkDigit_6 : decode cX5_checkDigit 6 = .ok (.istore 6, 2) := by decide +kernel
theorem dX5_checkDigit_8 : decode cX5_checkDigit 8 = .ok (.iload 6, 2) := by decide +kernel
theorem dX5_checkDigit_10 : decode cX5_checkDigit 10 = .ok (.bipush 18, 2) := by decide +kernel
theorem dX5_checkDigit_12 : decode cX5_checkDigit 12 = .ok (.if_icmp .ge 47, 3) := by decide +kernel
theorem dX5_checkDigit_15 : decode cX5_checkDigit 15 = .ok (.lload 4, 2) := by decide +kernel
theorem dX5_checkDigit_17 : decode cX5_checkDigit 17 = .ok (.ldc2_w 17, 3) := by decide +kernel
theorem dX5_checkDigit_20 : decode cX5_checkDigit 20 = .ok (.lrem, 1) := by decide +kernel
theorem dX5_checkDigit_21 : decode cX5_checkDigit 21 = .ok (.l2i, 1) := by decide +kernel
theorem dX5_checkDigit_22 : decode cX5_checkDigit 22 = .ok (.istore 7, 2) := by decide +kernel
theorem dX5_checkDigit_24 : decode cX5_checkDigit 24 = .ok (.iload_n 3, 1) := by decide +kernel
theorem dX5_checkDigit_25 : decode cX5_checkDigit 25 = .ok (.iload 6, 2) := by decide +kernel
theorem dX5_checkDigit_27 : decode cX5_checkDigit 27 = .ok (.iconst 2, 1) := by decide +kernel
theorem dX5_checkDigit_28 : decode cX5_checkDigit 28 = .ok (.irem, 1) := by decide +kernel
theorem dX5_checkDigit_29 : decode cX5_checkDigit 29 = .ok (.ifCond .ne 12, 3) := by decide +kernel
theorem dX5_checkDigit_32 : decode cX5_checkDigit 32 = .ok (.iload_n 0, 1) := by decide +kernel
theorem dX5_checkDigit_33 : decode cX5_checkDigit 33 = .ok (.iload 7, 2) := by decide +kernel
theorem dX5_checkDigit_35 : decode cX5_checkDigit 35 = .ok (.invokestatic 19, 3) := by decide +kernel
theorem dX5_checkDigit_38 : decode cX5_checkDigit 38 = .ok (.goto 5, 3) := by decide +kernel
theorem dX5_checkDigit_41 : decode cX5_checkDigit 41 = .ok (.iload 7, 2) := by decide +kernel
theorem dX5_checkDigit_43 : decode cX5_checkDigit 43 = .ok (.iadd, 1) := by decide +kernel
theorem dX5_checkDigit_44 : decode cX5_checkDigit 44 = .ok (.istore_n 3, 1) := by decide +kernel
theorem dX5_checkDigit_45 : decode cX5_checkDigit 45 = .ok (.lload 4, 2) := by decide +kernel
theorem dX5_checkDigit_47 : decode cX5_checkDigit 47 = .ok (.ldc2_w 17, 3) := by decide +kernel
theorem dX5_checkDigit_50 : decode cX5_checkDigit 50 = .ok (.ldiv, 1) := by decide +kernel
theorem dX5_checkDigit_51 : decode cX5_checkDigit 51 = .ok (.lstore 4, 2) := by decide +kernel
theorem dX5_checkDigit_53 : decode cX5_checkDigit 53 = .ok (.iinc 6 1, 3) := by decide +kernel
theorem dX5_checkDigit_56 : decode cX5_checkDigit 56 = .ok (.goto (-48), 3) := by decide +kernel
theorem dX5_checkDigit_59 : decode cX5_checkDigit 59 = .ok (.bipush 10, 2) := by decide +kernel
theorem dX5_checkDigit_61 : decode cX5_checkDigit 61 = .ok (.iload_n 3, 1) := by decide +kernel
theorem dX5_checkDigit_62 : decode cX5_checkDigit 62 = .ok (.bipush 10, 2) := by decide +kernel
theorem dX5_checkDigit_64 : decode cX5_checkDigit 64 = .ok (.irem, 1) := by decide +kernel
theorem dX5_checkDigit_65 : decode cX5_checkDigit 65 = .ok (.isub, 1) := by decide +kernel
theorem dX5_checkDigit_66 : decode cX5_checkDigit 66 = .ok (.bipush 10, 2) := by decide +kernel
theorem dX5_checkDigit_68 : decode cX5_checkDigit 68 = .ok (.irem, 1) := by decide +kernel
theorem dX5_checkDigit_69 : decode cX5_checkDigit 69 = .ok (.ireturn, 1) := by decide +kernel
set_option maxRecDepth 20000 in
theorem ggX5_isGood_X5_checkDigit : GoodIn wsX5_isGood wsX5_checkDigit := goodIn_r _ [5, 1, 6, 7, 4, 8] (by decide +kernel) (by decide +kernel)
set_option maxRecDepth 20000 in
theorem gX5_isGood_X5_checkDigit : GoodIn wsX5_isGood (va_wsS RX5 23 yX5_checkDigit wsX5_checkDigit) := goodIn_app (goodIn_of _ (by decide +kernel)) ggX5_isGood_X5_checkDigit
theorem dX5_isGood_0 : decode cX5_isGood 0 = .ok (.lload_n 1, 1) := by decide +kernel
theorem dX5_isGood_1 : decode cX5_isGood 1 = .ok (.ldc2_w 17, 3) := by decide +kernel
theorem dX5_isGood_4 : decode cX5_isGood 4 = .ok (.lrem, 1) := by decide +kernel
theorem dX5_isGood_5 : decode cX5_isGood 5 = .ok (.iload_n 0, 1) := by decide +kernel
theorem dX5_isGood_6 : decode cX5_isGood 6 = .ok (.lload_n 1, 1) := by decide +kernel
theorem dX5_isGood_7 : decode cX5_isGood 7 = .ok (.ldc2_w 17, 3) := by decide +kernel
theorem dX5_isGood_10 : decode cX5_isGood 10 = .ok (.ldiv, 1) := by decide +kernel
theorem dX5_isGood_11 : decode cX5_isGood 11 = .ok (.invokestatic 23, 3) := by decide +kernel
theorem dX5_isGood_14 : decode cX5_isGood 14 = .ok (.i2l, 1) := by decide +kernel
theorem dX5_isGood_15 : decode cX5_isGood 15 = .ok (.lcmp, 1) := by decide +kernel
theorem dX5_isGood_16 : decode cX5_isGood 16 = .ok (.ifCond .ne 7, 3) := by decide +kernel
theorem dX5_isGood_19 : decode cX5_isGood 19 = .ok (.iconst 1, 1) := by decide +kernel
theorem dX5_isGood_20 : decode cX5_isGood 20 = .ok (.goto 4, 3) := by decide +kernel
theorem dX5_isGood_23 : decode cX5_isGood 23 = .ok (.iconst 0, 1) := by decide +kernel
theorem dX5_isGood_24 : decode cX5_isGood 24 = .ok (.ireturn, 1) := by decide +kernel
theorem dX5_decimals_0 : decode cX5_decimals 0 = .ok (.iconst 1, 1) := by decide +kernel
theorem dX5_decimals_1 : decode cX5_decimals 1 = .ok (.istore_n 2, 1) := by decide +kernel
theorem dX5_decimals_2 : decode cX5_decimals 2 = .ok (.lload_n 0, 1) := by decide +kernel
theorem dX5_decimals_3 : decode cX5_decimals 3 = .ok (.ldc2_w 17, 3) := by decide +kernel
theorem dX5_decimals_6 : decode cX5_decimals 6 = .ok (.ldiv, 1) := by decide +kernel
theorem dX5_decimals_7 : decode cX5_decimals 7 = .ok (.lstore_n 3, 1) := by decide +kernel
theorem dX5_decimals_8 : decode cX5_decimals 8 = .ok (.lload_n 3, 1) := by decide +kernel
theorem dX5_decimals_9 : decode cX5_decimals 9 = .ok (.lconst 0, 1) := by decide +kernel
theorem dX5_decimals_10 : decode cX5_decimals 10 = .ok (.lcmp, 1) := by decide +kernel
theorem dX5_decimals_11 : decode cX5_decimals 11 = .ok (.ifCond .le 21, 3) := by decide +kernel
theorem dX5_decimals_14 : decode cX5_decimals 14 = .ok (.iload_n 2, 1) := by decide +kernel
theorem dX5_decimals_15 : decode cX5_decimals 15 = .ok (.bipush 18, 2) := by decide +kernel
theorem dX5_decimals_17 : decode cX5_decimals 17 = .ok (.if_icmp .ge 15, 3) := by decide +kernel
theorem dX5_decimals_20 : decode cX5_decimals 20 = .ok (.iinc 2 1, 3) := by decide +kernel
theorem dX5_decimals_23 : decode cX5_decimals 23 = .ok (.lload_n 3, 1) := by decide +kernel
theorem dX5_decimals_24 : decode cX5_decimals 24 = .ok (.ldc2_w 17, 3) := by decide +kernel
theorem dX5_decimals_27 : decode cX5_decimals 27 = .ok (.ldiv, 1) := by decide +kernel
theorem dX5_decimals_28 : decode cX5_decimals 28 = .ok (.lstore_n 3, 1) := by decide +kernel
theorem dX5_decimals_29 : decode cX5_decimals 29 = .ok (.goto (-21), 3) := by decide +kernel
theorem dX5_decimals_32 : decode cX5_decimals 32 = .ok (.iload_n 2, 1) := by decide +kernel
theorem dX5_decimals_33 : decode cX5_decimals 33 = .ok (.ireturn, 1) := by decide +kernel
set_option maxRecDepth 20000 in
theorem ggX5_decimalAt_X5_decimals : GoodIn wsX5_decimalAt wsX5_decimals := goodIn_r _ [5, 1] (by decide +kernel) (by decide +kernel)
set_option maxRecDepth 20000 in
theorem gX5_decimalAt_X5_decimals : GoodIn wsX5_decimalAt (va_wsS RX5 27 yX5_decimals wsX5_decimals) := goodIn_app (goodIn_of _ (by decide +kernel)) ggX5_decimalAt_X5_decimals
theorem dX5_decimalAt_0 : decode cX5_decimalAt 0 = .ok (.lload_n 0, 1) := by decide +kernel
theorem dX5_decimalAt_1 : decode cX5_decimalAt 1 = .ok (.invokestatic 27, 3) := by decide +kernel
theorem dX5_decimalAt_4 : decode cX5_decimalAt 4 = .ok (.iconst 1, 1) := by decide +kernel
theorem dX5_decimalAt_5 : decode cX5_decimalAt 5 = .ok (.isub, 1) := by decide +kernel
theorem dX5_decimalAt_6 : decode cX5_decimalAt 6 = .ok (.iload_n 2, 1) := by decide +kernel
theorem dX5_decimalAt_7 : decode cX5_decimalAt 7 = .ok (.isub, 1) := by decide +kernel
theorem dX5_decimalAt_8 : decode cX5_decimalAt 8 = .ok (.istore_n 3, 1) := by decide +kernel
theorem dX5_decimalAt_9 : decode cX5_decimalAt 9 = .ok (.iload_n 2, 1) := by decide +kernel
theorem dX5_decimalAt_10 : decode cX5_decimalAt 10 = .ok (.ifCond .lt 7, 3) := by decide +kernel
theorem dX5_decimalAt_13 : decode cX5_decimalAt 13 = .ok (.iload_n 3, 1) := by decide +kernel
theorem dX5_decimalAt_14 : decode cX5_decimalAt 14 = .ok (.ifCond .ge 5, 3) := by decide +kernel
theorem dX5_decimalAt_17 : decode cX5_decimalAt 17 = .ok (.iconst (-1), 1) := by decide +kernel
theorem dX5_decimalAt_18 : decode cX5_decimalAt 18 = .ok (.ireturn, 1) := by decide +kernel
theorem dX5_decimalAt_19 : decode cX5_decimalAt 19 = .ok (.lload_n 0, 1) := by decide +kernel
theorem dX5_decimalAt_20 : decode cX5_decimalAt 20 = .ok (.lstore 4, 2) := by decide +kernel
theorem dX5_decimalAt_22 : decode cX5_decimalAt 22 = .ok (.iconst 0, 1) := by decide +kernel
theorem dX5_decimalAt_23 : decode cX5_decimalAt 23 = .ok (.istore 6, 2) := by decide +kernel
theorem dX5_decimalAt_25 : decode cX5_decimalAt 25 = .ok (.iload 6, 2) := by decide +kernel
theorem dX5_decimalAt_27 : decode cX5_decimalAt 27 = .ok (.iload_n 3, 1) := by decide +kernel
theorem dX5_decimalAt_28 : decode cX5_decimalAt 28 = .ok (.if_icmp .ge 17, 3) := by decide +kernel
theorem dX5_decimalAt_31 : decode cX5_decimalAt 31 = .ok (.lload 4, 2) := by decide +kernel
theorem dX5_decimalAt_33 : decode cX5_decimalAt 33 = .ok (.ldc2_w 17, 3) := by decide +kernel
theorem dX5_decimalAt_36 : decode cX5_decimalAt 36 = .ok (.ldiv, 1) := by decide +kernel
theorem dX5_decimalAt_37 : decode cX5_decimalAt 37 = .ok (.lstore 4, 2) := by decide +kernel
theorem dX5_decimalAt_39 : decode cX5_decimalAt 39 = .ok (.iinc 6 1, 3) := by decide +kernel
theorem dX5_decimalAt_42 : decode cX5_decimalAt 42 = .ok (.goto (-17), 3) := by decide +kernel
theorem dX5_decimalAt_45 : decode cX5_decimalAt 45 = .ok (.lload 4, 2) := by decide +kernel
theorem dX5_decimalAt_47 : decode cX5_decimalAt 47 = .ok (.ldc2_w 17, 3) := by decide +kernel
theorem dX5_decimalAt_50 : decode cX5_decimalAt 50 = .ok (.lrem, 1) := by decide +kernel
theorem dX5_decimalAt_51 : decode cX5_decimalAt 51 = .ok (.l2i, 1) := by decide +kernel
theorem dX5_decimalAt_52 : decode cX5_decimalAt 52 = .ok (.ireturn, 1) := by decide +kernel
theorem dX5_systemOfSerial_0 : decode cX5_systemOfSerial 0 = .ok (.lload_n 0, 1) := by decide +kernel
theorem dX5_systemOfSerial_1 : decode cX5_systemOfSerial 1 = .ok (.ldc2_w 17, 3) := by decide +kernel
theorem dX5_systemOfSerial_4 : decode cX5_systemOfSerial 4 = .ok (.ldiv, 1) := by decide +kernel
theorem dX5_systemOfSerial_5 : decode cX5_systemOfSerial 5 = .ok (.ldc2_w 17, 3) := by decide +kernel
theorem dX5_systemOfSerial_8 : decode cX5_systemOfSerial 8 = .ok (.lrem, 1) := by decide +kernel
theorem dX5_systemOfSerial_9 : decode cX5_systemOfSerial 9 = .ok (.ldc2_w 31, 3) := by decide +kernel
theorem dX5_systemOfSerial_12 : decode cX5_systemOfSerial 12 = .ok (.lrem, 1) := by decide +kernel
theorem dX5_systemOfSerial_13 : decode cX5_systemOfSerial 13 = .ok (.l2i, 1) := by decide +kernel
theorem dX5_systemOfSerial_14 : decode cX5_systemOfSerial 14 = .ok (.ireturn, 1) := by decide +kernel
theorem dX5_weighed_0 : decode cX5_weighed 0 = .ok (.iload_n 0, 1) := by decide +kernel
theorem dX5_weighed_1 : decode cX5_weighed 1 = .ok (.ifCond .ne 7, 3) := by decide +kernel
theorem dX5_weighed_4 : decode cX5_weighed 4 = .ok (.iconst 3, 1) := by decide +kernel
theorem dX5_weighed_5 : decode cX5_weighed 5 = .ok (.iload_n 1, 1) := by decide +kernel
theorem dX5_weighed_6 : decode cX5_weighed 6 = .ok (.imul, 1) := by decide +kernel
theorem dX5_weighed_7 : decode cX5_weighed 7 = .ok (.ireturn, 1) := by decide +kernel
theorem dX5_weighed_8 : decode cX5_weighed 8 = .ok (.iconst 2, 1) := by decide +kernel
theorem dX5_weighed_9 : decode cX5_weighed 9 = .ok (.iload_n 1, 1) := by decide +kernel
theorem dX5_weighed_10 : decode cX5_weighed 10 = .ok (.imul, 1) := by decide +kernel
theorem dX5_weighed_11 : decode cX5_weighed 11 = .ok (.bipush 9, 2) := by decide +kernel
theorem dX5_weighed_13 : decode cX5_weighed 13 = .ok (.if_icmp .le 12, 3) := by decide +kernel
theorem dX5_weighed_16 : decode cX5_weighed 16 = .ok (.iconst 2, 1) := by decide +kernel
theorem dX5_weighed_17 : decode cX5_weighed 17 = .ok (.iload_n 1, 1) := by decide +kernel
theorem dX5_weighed_18 : decode cX5_weighed 18 = .ok (.imul, 1) := by decide +kernel
theorem dX5_weighed_19 : decode cX5_weighed 19 = .ok (.bipush 9, 2) := by decide +kernel
theorem dX5_weighed_21 : decode cX5_weighed 21 = .ok (.isub, 1) := by decide +kernel
theorem dX5_weighed_22 : decode cX5_weighed 22 = .ok (.goto 6, 3) := by decide +kernel
theorem dX5_weighed_25 : decode cX5_weighed 25 = .ok (.iconst 2, 1) := by decide +kernel
theorem dX5_weighed_26 : decode cX5_weighed 26 = .ok (.iload_n 1, 1) := by decide +kernel
theorem dX5_weighed_27 : decode cX5_weighed 27 = .ok (.imul, 1) := by decide +kernel
theorem dX5_weighed_28 : decode cX5_weighed 28 = .ok (.ireturn, 1) := by decide +kernel
theorem dX6_init_0 : decode cX6_init 0 = .ok (.aload_n 0, 1) := by decide +kernel
theorem dX6_init_1 : decode cX6_init 1 = .ok (.invokespecial 3, 3) := by decide +kernel
theorem dX6_init_4 : decode cX6_init 4 = .ok (.aload_n 0, 1) := by decide +kernel
theorem dX6_init_5 : decode cX6_init 5 = .ok (.sipush 200, 3) := by decide +kernel
theorem dX6_init_8 : decode cX6_init 8 = .ok (.newarray .long, 2) := by decide +kernel
theorem dX6_init_10 : decode cX6_init 10 = .ok (.putfield 11, 3) := by decide +kernel
theorem dX6_init_13 : decode cX6_init 13 = .ok (.aload_n 0, 1) := by decide +kernel
theorem dX6_init_14 : decode cX6_init 14 = .ok (.sipush 200, 3) := by decide +kernel
theorem dX6_init_17 : decode cX6_init 17 = .ok (.newarray .int, 2) := by decide +kernel
theorem dX6_init_19 : decode cX6_init 19 = .ok (.putfield 15, 3) := by decide +kernel
theorem dX6_init_22 : decode cX6_init 22 = .ok (.aload_n 0, 1) := by decide +kernel
theorem dX6_init_23 : decode cX6_init 23 = .ok (.sipush 200, 3) := by decide +kernel
theorem dX6_init_26 : decode cX6_init 26 = .ok (.newarray .int, 2) := by decide +kernel
theorem dX6_init_28 : decode cX6_init 28 = .ok (.putfield 19, 3) := by decide +kernel
theorem dX6_init_31 : decode cX6_init 31 = .ok (.aload_n 0, 1) := by decide +kernel
theorem dX6_init_32 : decode cX6_init 32 = .ok (.sipush 200, 3) := by decide +kernel
theorem dX6_init_35 : decode cX6_init 35 = .ok (.newarray .int, 2) := by decide +kernel
theorem dX6_init_37 : decode cX6_init 37 = .ok (.putfield 22, 3) := by decide +kernel
theorem dX6_init_40 : decode cX6_init 40 = .ok (.aload_n 0, 1) := by decide +kernel
theorem dX6_init_41 : decode cX6_init 41 = .ok (.sipush 200, 3) := by decide +kernel
theorem dX6_init_44 : decode cX6_init 44 = .ok (.newarray .int, 2) := by decide +kernel
theorem dX6_init_46 : decode cX6_init 46 = .ok (.putfield 25, 3) := by decide +kernel
theorem dX6_init_49 : decode cX6_init 49 = .ok (.aload_n 0, 1) := by decide +kernel
theorem dX6_init_50 : decode cX6_init 50 = .ok (.sipush 200, 3) := by decide +kernel
theorem dX6_init_53 : decode cX6_init 53 = .ok (.newarray .int, 2) := by decide +kernel
theorem dX6_init_55 : decode cX6_init 55 = .ok (.putfield 28, 3) := by decide +kernel
theorem dX6_init_58 : decode cX6_init 58 = .ok (.aload_n 0, 1) := by decide +kernel
theorem dX6_init_59 : decode cX6_init 59 = .ok (.iconst 0, 1) := by decide +kernel
theorem dX6_init_60 : decode cX6_init 60 = .ok (.putfield 31, 3) := by decide +kernel
theorem dX6_init_63 : decode cX6_init 63 = .ok (.return_, 1) := by decide +kernel
theorem dX6_areAtLimit_0 : decode cX6_areAtLimit 0 = .ok (.aload_n 0, 1) := by decide +kernel
theorem dX6_areAtLimit_1 : decode cX6_areAtLimit 1 = .ok (.getfield 31, 3) := by decide +kernel
theorem dX6_areAtLimit_4 : decode cX6_areAtLimit 4 = .ok (.sipush 200, 3) := by decide +kernel
theorem dX6_areAtLimit_7 : decode cX6_areAtLimit 7 = .ok (.if_icmp .lt 7, 3) := by decide +kernel
theorem dX6_areAtLimit_10 : decode cX6_areAtLimit 10 = .ok (.iconst 1, 1) := by decide +kernel
theorem dX6_areAtLimit_11 : decode cX6_areAtLimit 11 = .ok (.goto 4, 3) := by decide +kernel
theorem dX6_areAtLimit_14 : decode cX6_areAtLimit 14 = .ok (.iconst 0, 1) := by decide +kernel
theorem dX6_areAtLimit_15 : decode cX6_areAtLimit 15 = .ok (.ireturn, 1) := by decide +kernel
theorem dX6_size_0 : decode cX6_size 0 = .ok (.aload_n 0, 1) := by decide +kernel
theorem dX6_size_1 : decode cX6_size 1 = .ok (.getfield 31, 3) := by decide +kernel
theorem dX6_size_4 : decode cX6_size 4 = .ok (.ireturn, 1) := by decide +kernel
theorem dX6_add_0 : decode cX6_add 0 = .ok (.aload_n 0, 1) := by decide +kernel
theorem dX6_add_1 : decode cX6_add 1 = .ok (.getfield 31, 3) := by decide +kernel
theorem dX6_add_4 : decode cX6_add 4 = .ok (.sipush 200, 3) := by decide +kernel
theorem dX6_add_7 : decode cX6_add 7 = .ok (.if_icmp .lt 4, 3) := by decide +kernel
theorem dX6_add_10 : decode cX6_add 10 = .ok (.return_, 1) := by decide +kernel
theorem dX6_add_11 : decode cX6_add 11 = .ok (.aload_n 0, 1) := by decide +kernel
theorem dX6_add_12 : decode cX6_add 12 = .ok (.getfield 11, 3) := by decide +kernel
theorem dX6_add_15 : decode cX6_add 15 = .ok (.aload_n 0, 1) := by decide +kernel
theorem dX6_add_16 : decode cX6_add 16 = .ok (.getfield 31, 3) := by decide +kernel
theorem dX6_add_19 : decode cX6_add 19 = .ok (.lload_n 1, 1) := by decide +kernel
theorem dX6_add_20 : decode cX6_add 20 = .ok (.lastore, 1) := by decide +kernel
theorem dX6_add_21 : decode cX6_add 21 = .ok (.aload_n 0, 1) := by decide +kernel
theorem dX6_add_22 : decode cX6_add 22 = .ok (.getfield 15, 3) := by decide +kernel
theorem dX6_add_25 : decode cX6_add 25 = .ok (.aload_n 0, 1) := by decide +kernel
theorem dX6_add_26 : decode cX6_add 26 = .ok (.getfield 31, 3) := by decide +kernel
theorem dX6_add_29 : decode cX6_add 29 = .ok (.iload_n 3, 1) := by decide +kernel
theorem dX6_add_30 : decode cX6_add 30 = .ok (.iastore, 1) := by decide +kernel
theorem dX6_add_31 : decode cX6_add 31 = .ok (.aload_n 0, 1) := by decide +kernel
theorem dX6_add_32 : decode cX6_add 32 = .ok (.getfield 19, 3) := by decide +kernel
theorem dX6_add_35 : decode cX6_add 35 = .ok (.aload_n 0, 1) := by decide +kernel
theorem dX6_add_36 : decode cX6_add 36 = .ok (.getfield 31, 3) := by decide +kernel
theorem dX6_add_39 : decode cX6_add 39 = .ok (.iload 4, 2) := by decide +kernel
theorem dX6_add_41 : decode cX6_add 41 = .ok (.iastore, 1) := by decide +kernel
theorem dX6_add_42 : decode cX6_add 42 = .ok (.aload_n 0, 1) := by decide +kernel
theorem dX6_add_43 : decode cX6_add 43 = .ok (.getfield 22, 3) := by decide +kernel
theorem dX6_add_46 : decode cX6_add 46 = .ok (.aload_n 0, 1) := by decide +kernel
theorem dX6_add_47 : decode cX6_add 47 = .ok (.getfield 31, 3) := by decide +kernel
theorem dX6_add_50 : decode cX6_add 50 = .ok (.iload 5, 2) := by decide +kernel
theorem dX6_add_52 : decode cX6_add 52 = .ok (.iastore, 1) := by decide +kernel
theorem dX6_add_53 : decode cX6_add 53 = .ok (.aload_n 0, 1) := by decide +kernel
theorem dX6_add_54 : decode cX6_add 54 = .ok (.getfield 25, 3) := by decide +kernel
theorem dX6_add_57 : decode cX6_add 57 = .ok (.aload_n 0, 1) := by decide +kernel
theorem dX6_add_58 : decode cX6_add 58 = .ok (.getfield 31, 3) := by decide +kernel
theorem dX6_add_61 : decode cX6_add 61 = .ok (.iload 6, 2) := by decide +kernel
theorem dX6_add_63 : decode cX6_add 63 = .ok (.iastore, 1) := by decide +kernel
theorem dX6_add_64 : decode cX6_add 64 = .ok (.aload_n 0, 1) := by decide +kernel
theorem dX6_add_65 : decode cX6_add 65 = .ok (.dup, 1) := by decide +kernel
theorem dX6_add_66 : decode cX6_add 66 = .ok (.getfield 31, 3) := by decide +kernel
theorem dX6_add_69 : decode cX6_add 69 = .ok (.iconst 1, 1) := by decide +kernel
theorem dX6_add_70 : decode cX6_add 70 = .ok (.iadd, 1) := by decide +kernel
theorem dX6_add_71 : decode cX6_add 71 = .ok (.putfield 31, 3) := by decide +kernel
theorem dX6_add_74 : decode cX6_add 74 = .ok (.return_, 1) := by decide +kernel
set_option maxRecDepth 20000 in
theorem ggX6_serialOf_X8_isIndex : GoodIn wsX6_serialOf wsX8_isIndex := goodIn_r _ [6] (by decide +kernel) (by decide +kernel)
set_option maxRecDepth 20000 in
theorem gX6_serialOf_X8_isIndex_n35 : GoodIn wsX6_serialOf (wsX8_isIndex) := ggX6_serialOf_X8_isIndex
theorem dX6_serialOf_0 : decode cX6_serialOf 0 = .ok (.iload_n 1, 1) := by decide +kernel
theorem dX6_serialOf_1 : decode cX6_serialOf 1 = .ok (.aload_n 0, 1) := by decide +kernel
theorem dX6_serialOf_2 : decode cX6_serialOf 2 = .ok (.getfield 31, 3) := by decide +kernel
theorem dX6_serialOf_5 : decode cX6_serialOf 5 = .ok (.invokestatic 35, 3) := by decide +kernel
theorem dX6_serialOf_8 : decode cX6_serialOf 8 = .ok (.ifCond .eq 12, 3) := by decide +kernel
theorem dX6_serialOf_11 : decode cX6_serialOf 11 = .ok (.aload_n 0, 1) := by decide +kernel
theorem dX6_serialOf_12 : decode cX6_serialOf 12 = .ok (.getfield 11, 3) := by decide +kernel
theorem dX6_serialOf_15 : decode cX6_serialOf 15 = .ok (.iload_n 1, 1) := by decide +kernel
theorem dX6_serialOf_16 : decode cX6_serialOf 16 = .ok (.laload, 1) := by decide +kernel
theorem dX6_serialOf_17 : decode cX6_serialOf 17 = .ok (.goto 6, 3) := by decide +kernel
theorem dX6_serialOf_20 : decode cX6_serialOf 20 = .ok (.ldc2_w 39, 3) := by decide +kernel
theorem dX6_serialOf_23 : decode cX6_serialOf 23 = .ok (.lreturn, 1) := by decide +kernel
set_option maxRecDepth 20000 in
theorem ggX6_payerOf_X8_isIndex : GoodIn wsX6_payerOf wsX8_isIndex := goodIn_r _ [5] (by decide +kernel) (by decide +kernel)
set_option maxRecDepth 20000 in
theorem gX6_payerOf_X8_isIndex_n35 : GoodIn wsX6_payerOf (wsX8_isIndex) := ggX6_payerOf_X8_isIndex
theorem dX6_payerOf_0 : decode cX6_payerOf 0 = .ok (.iload_n 1, 1) := by decide +kernel
theorem dX6_payerOf_1 : decode cX6_payerOf 1 = .ok (.aload_n 0, 1) := by decide +kernel
theorem dX6_payerOf_2 : decode cX6_payerOf 2 = .ok (.getfield 31, 3) := by decide +kernel
theorem dX6_payerOf_5 : decode cX6_payerOf 5 = .ok (.invokestatic 35, 3) := by decide +kernel
theorem dX6_payerOf_8 : decode cX6_payerOf 8 = .ok (.ifCond .eq 12, 3) := by decide +kernel
theorem dX6_payerOf_11 : decode cX6_payerOf 11 = .ok (.aload_n 0, 1) := by decide +kernel
theorem dX6_payerOf_12 : decode cX6_payerOf 12 = .ok (.getfield 15, 3) := by decide +kernel
theorem dX6_payerOf_15 : decode cX6_payerOf 15 = .ok (.iload_n 1, 1) := by decide +kernel
theorem dX6_payerOf_16 : decode cX6_payerOf 16 = .ok (.iaload, 1) := by decide +kernel
theorem dX6_payerOf_17 : decode cX6_payerOf 17 = .ok (.goto 4, 3) := by decide +kernel
theorem dX6_payerOf_20 : decode cX6_payerOf 20 = .ok (.iconst (-1), 1) := by decide +kernel
theorem dX6_payerOf_21 : decode cX6_payerOf 21 = .ok (.ireturn, 1) := by decide +kernel
set_option maxRecDepth 20000 in
theorem ggX6_isOf_X8_isIndex : GoodIn wsX6_isOf wsX8_isIndex := goodIn_r _ [5] (by decide +kernel) (by decide +kernel)
set_option maxRecDepth 20000 in
theorem gX6_isOf_X8_isIndex_n35 : GoodIn wsX6_isOf (wsX8_isIndex) := ggX6_isOf_X8_isIndex
theorem dX6_isOf_0 : decode cX6_isOf 0 = .ok (.iload_n 1, 1) := by decide +kernel
theorem dX6_isOf_1 : decode cX6_isOf 1 = .ok (.aload_n 0, 1) := by decide +kernel
theorem dX6_isOf_2 : decode cX6_isOf 2 = .ok (.getfield 31, 3) := by decide +kernel
theorem dX6_isOf_5 : decode cX6_isOf 5 = .ok (.invokestatic 35, 3) := by decide +kernel
theorem dX6_isOf_8 : decode cX6_isOf 8 = .ok (.ifCond .eq 17, 3) := by decide +kernel
theorem dX6_isOf_11 : decode cX6_isOf 11 = .ok (.aload_n 0, 1) := by decide +kernel
theorem dX6_isOf_12 : decode cX6_isOf 12 = .ok (.getfield 19, 3) := by decide +kernel
theorem dX6_isOf_15 : decode cX6_isOf 15 = .ok (.iload_n 1, 1) := by decide +kernel
theorem dX6_isOf_16 : decode cX6_isOf 16 = .ok (.iaload, 1) := by decide +kernel
theorem dX6_isOf_17 : decode cX6_isOf 17 = .ok (.iload_n 2, 1) := by decide +kernel
theorem dX6_isOf_18 : decode cX6_isOf 18 = .ok (.if_icmp .ne 7, 3) := by decide +kernel
theorem dX6_isOf_21 : decode cX6_isOf 21 = .ok (.iconst 1, 1) := by decide +kernel
theorem dX6_isOf_22 : decode cX6_isOf 22 = .ok (.goto 4, 3) := by decide +kernel
theorem dX6_isOf_25 : decode cX6_isOf 25 = .ok (.iconst 0, 1) := by decide +kernel
theorem dX6_isOf_26 : decode cX6_isOf 26 = .ok (.ireturn, 1) := by decide +kernel
theorem dX6_find_0 : decode cX6_find 0 = .ok (.iconst 0, 1) := by decide +kernel
theorem dX6_find_1 : decode cX6_find 1 = .ok (.istore 4, 2) := by decide +kernel
theorem dX6_find_3 : decode cX6_find 3 = .ok (.iload 4, 2) := by decide +kernel
theorem dX6_find_5 : decode cX6_find 5 = .ok (.aload_n 0, 1) := by decide +kernel
theorem dX6_find_6 : decode cX6_find 6 = .ok (.getfield 31, 3) := by decide +kernel
theorem dX6_find_9 : decode cX6_find 9 = .ok (.if_icmp .ge 35, 3) := by decide +kernel
theorem dX6_find_12 : decode cX6_find 12 = .ok (.aload_n 0, 1) := by decide +kernel
theorem dX6_find_13 : decode cX6_find 13 = .ok (.getfield 11, 3) := by decide +kernel
theorem dX6_find_16 : decode cX6_find 16 = .ok (.iload 4, 2) := by decide +kernel
theorem dX6_find_18 : decode cX6_find 18 = .ok (.laload, 1) := by decide +kernel
theorem dX6_find_19 : decode cX6_find 19 = .ok (.lload_n 1, 1) := by decide +kernel
theorem dX6_find_20 : decode cX6_find 20 = .ok (.lcmp, 1) := by decide +kernel
theorem dX6_find_21 : decode cX6_find 21 = .ok (.ifCond .ne 17, 3) := by decide +kernel
theorem dX6_find_24 : decode cX6_find 24 = .ok (.aload_n 0, 1) := by decide +kernel
theorem dX6_find_25 : decode cX6_find 25 = .ok (.getfield 19, 3) := by decide +kernel
theorem dX6_find_28 : decode cX6_find 28 = .ok (.iload 4, 2) := by decide +kernel
theorem dX6_find_30 : decode cX6_find 30 = .ok (.iaload, 1) := by decide +kernel
theorem dX6_find_31 : decode cX6_find 31 = .ok (.iload_n 3, 1) := by decide +kernel
theorem dX6_find_32 : decode cX6_find 32 = .ok (.if_icmp .ne 6, 3) := by decide +kernel
theorem dX6_find_35 : decode cX6_find 35 = .ok (.iload 4, 2) := by decide +kernel
theorem dX6_find_37 : decode cX6_find 37 = .ok (.ireturn, 1) := by decide +kernel
theorem dX6_find_38 : decode cX6_find 38 = .ok (.iinc 4 1, 3) := by decide +kernel
theorem dX6_find_41 : decode cX6_find 41 = .ok (.goto (-38), 3) := by decide +kernel
theorem dX6_find_44 : decode cX6_find 44 = .ok (.iconst (-1), 1) := by decide +kernel
theorem dX6_find_45 : decode cX6_find 45 = .ok (.ireturn, 1) := by decide +kernel
set_option maxRecDepth 20000 in
theorem ggX6_leaveSet_X8_isIndex : GoodIn wsX6_leaveSet wsX8_isIndex := goodIn_r _ [5] (by decide +kernel) (by decide +kernel)
set_option maxRecDepth 20000 in
theorem gX6_leaveSet_X8_isIndex_n35 : GoodIn wsX6_leaveSet (wsX8_isIndex) := ggX6_leaveSet_X8_isIndex
theorem dX6_leaveSet_0 : decode cX6_leaveSet 0 = .ok (.iload_n 1, 1) := by decide +kernel
theorem dX6_leaveSet_1 : decode cX6_leaveSet 1 = .ok (.aload_n 0, 1) := by decide +kernel
theorem dX6_leaveSet_2 : decode cX6_leaveSet 2 = .ok (.getfield 31, 3) := by decide +kernel
theorem dX6_leaveSet_5 : decode cX6_leaveSet 5 = .ok (.invokestatic 35, 3) := by decide +kernel
theorem dX6_leaveSet_8 : decode cX6_leaveSet 8 = .ok (.ifCond .eq 10, 3) := by decide +kernel
theorem dX6_leaveSet_11 : decode cX6_leaveSet 11 = .ok (.aload_n 0, 1) := by decide +kernel
theorem dX6_leaveSet_12 : decode cX6_leaveSet 12 = .ok (.getfield 19, 3) := by decide +kernel
theorem dX6_leaveSet_15 : decode cX6_leaveSet 15 = .ok (.iload_n 1, 1) := by decide +kernel
theorem dX6_leaveSet_16 : decode cX6_leaveSet 16 = .ok (.iconst (-1), 1) := by decide +kernel
theorem dX6_leaveSet_17 : decode cX6_leaveSet 17 = .ok (.iastore, 1) := by decide +kernel
theorem dX6_leaveSet_18 : decode cX6_leaveSet 18 = .ok (.return_, 1) := by decide +kernel
theorem dX6_moveSet_0 : decode cX6_moveSet 0 = .ok (.iconst 0, 1) := by decide +kernel
theorem dX6_moveSet_1 : decode cX6_moveSet 1 = .ok (.istore_n 3, 1) := by decide +kernel
theorem dX6_moveSet_2 : decode cX6_moveSet 2 = .ok (.iload_n 3, 1) := by decide +kernel
theorem dX6_moveSet_3 : decode cX6_moveSet 3 = .ok (.aload_n 0, 1) := by decide +kernel
theorem dX6_moveSet_4 : decode cX6_moveSet 4 = .ok (.getfield 31, 3) := by decide +kernel
theorem dX6_moveSet_7 : decode cX6_moveSet 7 = .ok (.if_icmp .ge 26, 3) := by decide +kernel
theorem dX6_moveSet_10 : decode cX6_moveSet 10 = .ok (.aload_n 0, 1) := by decide +kernel
theorem dX6_moveSet_11 : decode cX6_moveSet 11 = .ok (.getfield 19, 3) := by decide +kernel
theorem dX6_moveSet_14 : decode cX6_moveSet 14 = .ok (.iload_n 3, 1) := by decide +kernel
theorem dX6_moveSet_15 : decode cX6_moveSet 15 = .ok (.iaload, 1) := by decide +kernel
theorem dX6_moveSet_16 : decode cX6_moveSet 16 = .ok (.iload_n 1, 1) := by decide +kernel
theorem dX6_moveSet_17 : decode cX6_moveSet 17 = .ok (.if_icmp .ne 10, 3) := by decide +kernel
theorem dX6_moveSet_20 : decode cX6_moveSet 20 = .ok (.aload_n 0, 1) := by decide +kernel
theorem dX6_moveSet_21 : decode cX6_moveSet 21 = .ok (.getfield 19, 3) := by decide +kernel
theorem dX6_moveSet_24 : decode cX6_moveSet 24 = .ok (.iload_n 3, 1) := by decide +kernel
theorem dX6_moveSet_25 : decode cX6_moveSet 25 = .ok (.iload_n 2, 1) := by decide +kernel
theorem dX6_moveSet_26 : decode cX6_moveSet 26 = .ok (.iastore, 1) := by decide +kernel
theorem dX6_moveSet_27 : decode cX6_moveSet 27 = .ok (.iinc 3 1, 3) := by decide +kernel
theorem dX6_moveSet_30 : decode cX6_moveSet 30 = .ok (.goto (-28), 3) := by decide +kernel
theorem dX6_moveSet_33 : decode cX6_moveSet 33 = .ok (.return_, 1) := by decide +kernel
theorem dX6_addRefusal_0 : decode cX6_addRefusal 0 = .ok (.iconst 0, 1) := by decide +kernel
theorem dX6_addRefusal_1 : decode cX6_addRefusal 1 = .ok (.istore_n 3, 1) := by decide +kernel
theorem dX6_addRefusal_2 : decode cX6_addRefusal 2 = .ok (.iload_n 3, 1) := by decide +kernel
theorem dX6_addRefusal_3 : decode cX6_addRefusal 3 = .ok (.aload_n 0, 1) := by decide +kernel
theorem dX6_addRefusal_4 : decode cX6_addRefusal 4 = .ok (.getfield 31, 3) := by decide +kernel
theorem dX6_addRefusal_7 : decode cX6_addRefusal 7 = .ok (.if_icmp .ge 37, 3) := by decide +kernel
theorem dX6_addRefusal_10 : decode cX6_addRefusal 10 = .ok (.aload_n 0, 1) := by decide +kernel
theorem dX6_addRefusal_11 : decode cX6_addRefusal 11 = .ok (.getfield 11, 3) := by decide +kernel
theorem dX6_addRefusal_14 : decode cX6_addRefusal 14 = .ok (.iload_n 3, 1) := by decide +kernel
theorem dX6_addRefusal_15 : decode cX6_addRefusal 15 = .ok (.laload, 1) := by decide +kernel
theorem dX6_addRefusal_16 : decode cX6_addRefusal 16 = .ok (.lload_n 1, 1) := by decide +kernel
theorem dX6_addRefusal_17 : decode cX6_addRefusal 17 = .ok (.lcmp, 1) := by decide +kernel
theorem dX6_addRefusal_18 : decode cX6_addRefusal 18 = .ok (.ifCond .ne 20, 3) := by decide +kernel
theorem dX6_addRefusal_21 : decode cX6_addRefusal 21 = .ok (.aload_n 0, 1) := by decide +kernel
theorem dX6_addRefusal_22 : decode cX6_addRefusal 22 = .ok (.getfield 28, 3) := by decide +kernel
theorem dX6_addRefusal_25 : decode cX6_addRefusal 25 = .ok (.iload_n 3, 1) := by decide +kernel
theorem dX6_addRefusal_26 : decode cX6_addRefusal 26 = .ok (.dup2, 1) := by decide +kernel
theorem dX6_addRefusal_27 : decode cX6_addRefusal 27 = .ok (.iaload, 1) := by decide +kernel
theorem dX6_addRefusal_28 : decode cX6_addRefusal 28 = .ok (.iconst 1, 1) := by decide +kernel
theorem dX6_addRefusal_29 : decode cX6_addRefusal 29 = .ok (.iadd, 1) := by decide +kernel
theorem dX6_addRefusal_30 : decode cX6_addRefusal 30 = .ok (.iastore, 1) := by decide +kernel
theorem dX6_addRefusal_31 : decode cX6_addRefusal 31 = .ok (.aload_n 0, 1) := by decide +kernel
theorem dX6_addRefusal_32 : decode cX6_addRefusal 32 = .ok (.getfield 28, 3) := by decide +kernel
theorem dX6_addRefusal_35 : decode cX6_addRefusal 35 = .ok (.iload_n 3, 1) := by decide +kernel
theorem dX6_addRefusal_36 : decode cX6_addRefusal 36 = .ok (.iaload, 1) := by decide +kernel
theorem dX6_addRefusal_37 : decode cX6_addRefusal 37 = .ok (.ireturn, 1) := by decide +kernel
theorem dX6_addRefusal_38 : decode cX6_addRefusal 38 = .ok (.iinc 3 1, 3) := by decide +kernel
theorem dX6_addRefusal_41 : decode cX6_addRefusal 41 = .ok (.goto (-39), 3) := by decide +kernel
theorem dX6_addRefusal_44 : decode cX6_addRefusal 44 = .ok (.iconst (-1), 1) := by decide +kernel
theorem dX6_addRefusal_45 : decode cX6_addRefusal 45 = .ok (.ireturn, 1) := by decide +kernel
theorem dX6_paidBy_0 : decode cX6_paidBy 0 = .ok (.iconst 0, 1) := by decide +kernel
theorem dX6_paidBy_1 : decode cX6_paidBy 1 = .ok (.istore_n 3, 1) := by decide +kernel
theorem dX6_paidBy_2 : decode cX6_paidBy 2 = .ok (.iconst 0, 1) := by decide +kernel
theorem dX6_paidBy_3 : decode cX6_paidBy 3 = .ok (.istore 4, 2) := by decide +kernel
theorem dX6_paidBy_5 : decode cX6_paidBy 5 = .ok (.iload 4, 2) := by decide +kernel
theorem dX6_paidBy_7 : decode cX6_paidBy 7 = .ok (.aload_n 0, 1) := by decide +kernel
theorem dX6_paidBy_8 : decode cX6_paidBy 8 = .ok (.getfield 31, 3) := by decide +kernel
theorem dX6_paidBy_11 : decode cX6_paidBy 11 = .ok (.if_icmp .ge 34, 3) := by decide +kernel
theorem dX6_paidBy_14 : decode cX6_paidBy 14 = .ok (.aload_n 0, 1) := by decide +kernel
theorem dX6_paidBy_15 : decode cX6_paidBy 15 = .ok (.getfield 15, 3) := by decide +kernel
theorem dX6_paidBy_18 : decode cX6_paidBy 18 = .ok (.iload 4, 2) := by decide +kernel
theorem dX6_paidBy_20 : decode cX6_paidBy 20 = .ok (.iaload, 1) := by decide +kernel
theorem dX6_paidBy_21 : decode cX6_paidBy 21 = .ok (.iload_n 1, 1) := by decide +kernel
theorem dX6_paidBy_22 : decode cX6_paidBy 22 = .ok (.if_icmp .ne 17, 3) := by decide +kernel
theorem dX6_paidBy_25 : decode cX6_paidBy 25 = .ok (.aload_n 0, 1) := by decide +kernel
theorem dX6_paidBy_26 : decode cX6_paidBy 26 = .ok (.getfield 22, 3) := by decide +kernel
theorem dX6_paidBy_29 : decode cX6_paidBy 29 = .ok (.iload 4, 2) := by decide +kernel
theorem dX6_paidBy_31 : decode cX6_paidBy 31 = .ok (.iaload, 1) := by decide +kernel
theorem dX6_paidBy_32 : decode cX6_paidBy 32 = .ok (.iload_n 2, 1) := by decide +kernel
theorem dX6_paidBy_33 : decode cX6_paidBy 33 = .ok (.if_icmp .ne 6, 3) := by decide +kernel
theorem dX6_paidBy_36 : decode cX6_paidBy 36 = .ok (.iinc 3 1, 3) := by decide +kernel
theorem dX6_paidBy_39 : decode cX6_paidBy 39 = .ok (.iinc 4 1, 3) := by decide +kernel
theorem dX6_paidBy_42 : decode cX6_paidBy 42 = .ok (.goto (-37), 3) := by decide +kernel
theorem dX6_paidBy_45 : decode cX6_paidBy 45 = .ok (.iload_n 3, 1) := by decide +kernel
theorem dX6_paidBy_46 : decode cX6_paidBy 46 = .ok (.ireturn, 1) := by decide +kernel
set_option maxRecDepth 20000 in
theorem ggX6_balance_X6_addTo : GoodIn wsX6_balance wsX6_addTo := goodIn_r _ [8, 9, 10, 11] (by decide +kernel) (by decide +kernel)
set_option maxRecDepth 20000 in
theorem gX6_balance_X6_addTo : GoodIn wsX6_balance (va_wsS RX6 41 yX6_addTo wsX6_addTo) := goodIn_app (goodIn_of _ (by decide +kernel)) ggX6_balance_X6_addTo
set_option maxRecDepth 20000 in
theorem ggX6_balance_X5_systemOfSerial : GoodIn wsX6_balance wsX5_systemOfSerial := goodIn_r _ [15, 16, 17] (by decide +kernel) (by decide +kernel)
set_option maxRecDepth 20000 in
theorem gX6_balance_X5_systemOfSerial : GoodIn wsX6_balance (va_wsS RX6 45 yX5_systemOfSerial wsX5_systemOfSerial) := goodIn_app (goodIn_of _ (by decide +kernel)) ggX6_balance_X5_systemOfSerial
theorem dX6_balance_0 : decode cX6_balance 0 = .ok (.iconst 0, 1) := by decide +kernel
theorem dX6_balance_1 : decode cX6_balance 1 = .ok (.istore_n 3, 1) := by decide +kernel
theorem dX6_balance_2 : decode cX6_balance 2 = .ok (.iload_n 3, 1) := by decide +kernel
theorem dX6_balance_3 : decode cX6_balance 3 = .ok (.aload_n 2, 1) := by decide +kernel
theorem dX6_balance_4 : decode cX6_balance 4 = .ok (.arraylength, 1) := by decide +kernel
theorem dX6_balance_5 : decode cX6_balance 5 = .ok (.if_icmp .ge 13, 3) := by decide +kernel
theorem dX6_balance_8 : decode cX6_balance 8 = .ok (.aload_n 2, 1) := by decide +kernel
theorem dX6_balance_9 : decode cX6_balance 9 = .ok (.iload_n 3, 1) := by decide +kernel
theorem dX6_balance_10 : decode cX6_balance 10 = .ok (.lconst 0, 1) := by decide +kernel
theorem dX6_balance_11 : decode cX6_balance 11 = .ok (.lastore, 1) := by decide +kernel
theorem dX6_balance_12 : decode cX6_balance 12 = .ok (.iinc 3 1, 3) := by decide +kernel
theorem dX6_balance_15 : decode cX6_balance 15 = .ok (.goto (-13), 3) := by decide +kernel
theorem dX6_balance_18 : decode cX6_balance 18 = .ok (.iconst 0, 1) := by decide +kernel
theorem dX6_balance_19 : decode cX6_balance 19 = .ok (.istore_n 3, 1) := by decide +kernel
theorem dX6_balance_20 : decode cX6_balance 20 = .ok (.iload_n 3, 1) := by decide +kernel
theorem dX6_balance_21 : decode cX6_balance 21 = .ok (.aload_n 0, 1) := by decide +kernel
theorem dX6_balance_22 : decode cX6_balance 22 = .ok (.getfield 31, 3) := by decide +kernel
theorem dX6_balance_25 : decode cX6_balance 25 = .ok (.if_icmp .ge 48, 3) := by decide +kernel
theorem dX6_balance_28 : decode cX6_balance 28 = .ok (.aload_n 0, 1) := by decide +kernel
theorem dX6_balance_29 : decode cX6_balance 29 = .ok (.getfield 25, 3) := by decide +kernel
theorem dX6_balance_32 : decode cX6_balance 32 = .ok (.iload_n 3, 1) := by decide +kernel
theorem dX6_balance_33 : decode cX6_balance 33 = .ok (.iaload, 1) := by decide +kernel
theorem dX6_balance_34 : decode cX6_balance 34 = .ok (.iload_n 1, 1) := by decide +kernel
theorem dX6_balance_35 : decode cX6_balance 35 = .ok (.if_icmp .ne 32, 3) := by decide +kernel
theorem dX6_balance_38 : decode cX6_balance 38 = .ok (.aload_n 2, 1) := by decide +kernel
theorem dX6_balance_39 : decode cX6_balance 39 = .ok (.aload_n 0, 1) := by decide +kernel
theorem dX6_balance_40 : decode cX6_balance 40 = .ok (.getfield 15, 3) := by decide +kernel
theorem dX6_balance_43 : decode cX6_balance 43 = .ok (.iload_n 3, 1) := by decide +kernel
theorem dX6_balance_44 : decode cX6_balance 44 = .ok (.iaload, 1) := by decide +kernel
theorem dX6_balance_45 : decode cX6_balance 45 = .ok (.iconst 3, 1) := by decide +kernel
theorem dX6_balance_46 : decode cX6_balance 46 = .ok (.irem, 1) := by decide +kernel
theorem dX6_balance_47 : decode cX6_balance 47 = .ok (.bipush (-25), 2) := by decide +kernel
theorem dX6_balance_49 : decode cX6_balance 49 = .ok (.invokestatic 41, 3) := by decide +kernel
theorem dX6_balance_52 : decode cX6_balance 52 = .ok (.aload_n 2, 1) := by decide +kernel
theorem dX6_balance_53 : decode cX6_balance 53 = .ok (.aload_n 0, 1) := by decide +kernel
theorem dX6_balance_54 : decode cX6_balance 54 = .ok (.getfield 11, 3) := by decide +kernel
theorem dX6_balance_57 : decode cX6_balance 57 = .ok (.iload_n 3, 1) := by decide +kernel
theorem dX6_balance_58 : decode cX6_balance 58 = .ok (.laload, 1) := by decide +kernel
theorem dX6_balance_59 : decode cX6_balance 59 = .ok (.invokestatic 45, 3) := by decide +kernel
theorem dX6_balance_62 : decode cX6_balance 62 = .ok (.bipush 25, 2) := by decide +kernel
theorem dX6_balance_64 : decode cX6_balance 64 = .ok (.invokestatic 41, 3) := by decide +kernel
theorem dX6_balance_67 : decode cX6_balance 67 = .ok (.iinc 3 1, 3) := by decide +kernel
theorem dX6_balance_70 : decode cX6_balance 70 = .ok (.goto (-50), 3) := by decide +kernel
theorem dX6_balance_73 : decode cX6_balance 73 = .ok (.return_, 1) := by decide +kernel
set_option maxRecDepth 20000 in
theorem ggX6_addTo_X8_isIndex : GoodIn wsX6_addTo wsX8_isIndex := goodIn_r _ [3] (by decide +kernel) (by decide +kernel)
set_option maxRecDepth 20000 in
theorem gX6_addTo_X8_isIndex_n35 : GoodIn wsX6_addTo (wsX8_isIndex) := ggX6_addTo_X8_isIndex
theorem dX6_addTo_0 : decode cX6_addTo 0 = .ok (.iload_n 1, 1) := by decide +kernel
theorem dX6_addTo_1 : decode cX6_addTo 1 = .ok (.aload_n 0, 1) := by decide +kernel
theorem dX6_addTo_2 : decode cX6_addTo 2 = .ok (.arraylength, 1) := by decide +kernel
theorem dX6_addTo_3 : decode cX6_addTo 3 = .ok (.invokestatic 35, 3) := by decide +kernel
theorem dX6_addTo_6 : decode cX6_addTo 6 = .ok (.ifCond .eq 11, 3) := by decide +kernel
theorem dX6_addTo_9 : decode cX6_addTo 9 = .ok (.aload_n 0, 1) := by decide +kernel
theorem dX6_addTo_10 : decode cX6_addTo 10 = .ok (.iload_n 1, 1) := by decide +kernel
theorem dX6_addTo_11 : decode cX6_addTo 11 = .ok (.dup2, 1) := by decide +kernel
theorem dX6_addTo_12 : decode cX6_addTo 12 = .ok (.laload, 1) := by decide +kernel
theorem dX6_addTo_13 : decode cX6_addTo 13 = .ok (.iload_n 2, 1) := by decide +kernel
theorem dX6_addTo_14 : decode cX6_addTo 14 = .ok (.i2l, 1) := by decide +kernel
theorem dX6_addTo_15 : decode cX6_addTo 15 = .ok (.ladd, 1) := by decide +kernel
theorem dX6_addTo_16 : decode cX6_addTo 16 = .ok (.lastore, 1) := by decide +kernel
theorem dX6_addTo_17 : decode cX6_addTo 17 = .ok (.return_, 1) := by decide +kernel
theorem dX7_init_0 : decode cX7_init 0 = .ok (.aload_n 0, 1) := by decide +kernel
theorem dX7_init_1 : decode cX7_init 1 = .ok (.invokespecial 1, 3) := by decide +kernel
theorem dX7_init_4 : decode cX7_init 4 = .ok (.aload_n 0, 1) := by decide +kernel
theorem dX7_init_5 : decode cX7_init 5 = .ok (.bipush 8, 2) := by decide +kernel
theorem dX7_init_7 : decode cX7_init 7 = .ok (.newarray .boolean, 2) := by decide +kernel
theorem dX7_init_9 : decode cX7_init 9 = .ok (.putfield 9, 3) := by decide +kernel
theorem dX7_init_12 : decode cX7_init 12 = .ok (.aload_n 0, 1) := by decide +kernel
theorem dX7_init_13 : decode cX7_init 13 = .ok (.bipush 8, 2) := by decide +kernel
theorem dX7_init_15 : decode cX7_init 15 = .ok (.newarray .int, 2) := by decide +kernel
theorem dX7_init_17 : decode cX7_init 17 = .ok (.putfield 13, 3) := by decide +kernel
theorem dX7_init_20 : decode cX7_init 20 = .ok (.aload_n 0, 1) := by decide +kernel
theorem dX7_init_21 : decode cX7_init 21 = .ok (.bipush 8, 2) := by decide +kernel
theorem dX7_init_23 : decode cX7_init 23 = .ok (.newarray .int, 2) := by decide +kernel
theorem dX7_init_25 : decode cX7_init 25 = .ok (.putfield 17, 3) := by decide +kernel
theorem dX7_init_28 : decode cX7_init 28 = .ok (.return_, 1) := by decide +kernel
set_option maxRecDepth 20000 in
theorem ggX7_exists_X8_isIndex : GoodIn wsX7_exists wsX8_isIndex := goodIn_r _ [3] (by decide +kernel) (by decide +kernel)
set_option maxRecDepth 20000 in
theorem gX7_exists_X8_isIndex_n20 : GoodIn wsX7_exists (wsX8_isIndex) := ggX7_exists_X8_isIndex
theorem dX7_exists_0 : decode cX7_exists 0 = .ok (.iload_n 1, 1) := by decide +kernel
theorem dX7_exists_1 : decode cX7_exists 1 = .ok (.bipush 8, 2) := by decide +kernel
theorem dX7_exists_3 : decode cX7_exists 3 = .ok (.invokestatic 20, 3) := by decide +kernel
theorem dX7_exists_6 : decode cX7_exists 6 = .ok (.ireturn, 1) := by decide +kernel
set_option maxRecDepth 20000 in
theorem ggX7_tell_X7_exists : GoodIn wsX7_tell wsX7_exists := goodIn_r _ [9, 10, 11, 12] (by decide +kernel) (by decide +kernel)
set_option maxRecDepth 20000 in
theorem gX7_tell_X7_exists : GoodIn wsX7_tell (wsV RX7 26 RX7 yX7_exists wsX7_exists) := goodIn_app (goodIn_of _ (by decide +kernel)) ggX7_tell_X7_exists
theorem dX7_tell_0 : decode cX7_tell 0 = .ok (.aload_n 0, 1) := by decide +kernel
theorem dX7_tell_1 : decode cX7_tell 1 = .ok (.iload_n 1, 1) := by decide +kernel
theorem dX7_tell_2 : decode cX7_tell 2 = .ok (.invokevirtual 26, 3) := by decide +kernel
theorem dX7_tell_5 : decode cX7_tell 5 = .ok (.ifCond .eq 18, 3) := by decide +kernel
theorem dX7_tell_8 : decode cX7_tell 8 = .ok (.iload_n 2, 1) := by decide +kernel
theorem dX7_tell_9 : decode cX7_tell 9 = .ok (.ifCond .lt 14, 3) := by decide +kernel
theorem dX7_tell_12 : decode cX7_tell 12 = .ok (.iload_n 3, 1) := by decide +kernel
theorem dX7_tell_13 : decode cX7_tell 13 = .ok (.ldc 30, 2) := by decide +kernel
theorem dX7_tell_15 : decode cX7_tell 15 = .ok (.if_icmp .gt 8, 3) := by decide +kernel
theorem dX7_tell_18 : decode cX7_tell 18 = .ok (.iload_n 2, 1) := by decide +kernel
theorem dX7_tell_19 : decode cX7_tell 19 = .ok (.iload_n 3, 1) := by decide +kernel
theorem dX7_tell_20 : decode cX7_tell 20 = .ok (.if_icmp .le 5, 3) := by decide +kernel
theorem dX7_tell_23 : decode cX7_tell 23 = .ok (.iconst 0, 1) := by decide +kernel
theorem dX7_tell_24 : decode cX7_tell 24 = .ok (.ireturn, 1) := by decide +kernel
theorem dX7_tell_25 : decode cX7_tell 25 = .ok (.aload_n 0, 1) := by decide +kernel
theorem dX7_tell_26 : decode cX7_tell 26 = .ok (.getfield 9, 3) := by decide +kernel
theorem dX7_tell_29 : decode cX7_tell 29 = .ok (.iload_n 1, 1) := by decide +kernel
theorem dX7_tell_30 : decode cX7_tell 30 = .ok (.iconst 1, 1) := by decide +kernel
theorem dX7_tell_31 : decode cX7_tell 31 = .ok (.bastore, 1) := by decide +kernel
theorem dX7_tell_32 : decode cX7_tell 32 = .ok (.aload_n 0, 1) := by decide +kernel
theorem dX7_tell_33 : decode cX7_tell 33 = .ok (.getfield 13, 3) := by decide +kernel
theorem dX7_tell_36 : decode cX7_tell 36 = .ok (.iload_n 1, 1) := by decide +kernel
theorem dX7_tell_37 : decode cX7_tell 37 = .ok (.iload_n 2, 1) := by decide +kernel
theorem dX7_tell_38 : decode cX7_tell 38 = .ok (.iastore, 1) := by decide +kernel
theorem dX7_tell_39 : decode cX7_tell 39 = .ok (.aload_n 0, 1) := by decide +kernel
theorem dX7_tell_40 : decode cX7_tell 40 = .ok (.getfield 17, 3) := by decide +kernel
theorem dX7_tell_43 : decode cX7_tell 43 = .ok (.iload_n 1, 1) := by decide +kernel
theorem dX7_tell_44 : decode cX7_tell 44 = .ok (.iload_n 3, 1) := by decide +kernel
theorem dX7_tell_45 : decode cX7_tell 45 = .ok (.iastore, 1) := by decide +kernel
theorem dX7_tell_46 : decode cX7_tell 46 = .ok (.iconst 1, 1) := by decide +kernel
theorem dX7_tell_47 : decode cX7_tell 47 = .ok (.ireturn, 1) := by decide +kernel
set_option maxRecDepth 20000 in
theorem ggX7_isTold_X7_exists : GoodIn wsX7_isTold wsX7_exists := goodIn_r _ [6, 7, 8, 9] (by decide +kernel) (by decide +kernel)
set_option maxRecDepth 20000 in
theorem gX7_isTold_X7_exists : GoodIn wsX7_isTold (wsV RX7 26 RX7 yX7_exists wsX7_exists) := goodIn_app (goodIn_of _ (by decide +kernel)) ggX7_isTold_X7_exists
theorem dX7_isTold_0 : decode cX7_isTold 0 = .ok (.aload_n 0, 1) := by decide +kernel
theorem dX7_isTold_1 : decode cX7_isTold 1 = .ok (.iload_n 1, 1) := by decide +kernel
theorem dX7_isTold_2 : decode cX7_isTold 2 = .ok (.invokevirtual 26, 3) := by decide +kernel
theorem dX7_isTold_5 : decode cX7_isTold 5 = .ok (.ifCond .eq 16, 3) := by decide +kernel
theorem dX7_isTold_8 : decode cX7_isTold 8 = .ok (.aload_n 0, 1) := by decide +kernel
theorem dX7_isTold_9 : decode cX7_isTold 9 = .ok (.getfield 9, 3) := by decide +kernel
theorem dX7_isTold_12 : decode cX7_isTold 12 = .ok (.iload_n 1, 1) := by decide +kernel
theorem dX7_isTold_13 : decode cX7_isTold 13 = .ok (.baload, 1) := by decide +kernel
theorem dX7_isTold_14 : decode cX7_isTold 14 = .ok (.ifCond .eq 7, 3) := by decide +kernel
theorem dX7_isTold_17 : decode cX7_isTold 17 = .ok (.iconst 1, 1) := by decide +kernel
theorem dX7_isTold_18 : decode cX7_isTold 18 = .ok (.goto 4, 3) := by decide +kernel
theorem dX7_isTold_21 : decode cX7_isTold 21 = .ok (.iconst 0, 1) := by decide +kernel
theorem dX7_isTold_22 : decode cX7_isTold 22 = .ok (.ireturn, 1) := by decide +kernel
set_option maxRecDepth 20000 in
theorem ggX7_holds_X7_isTold : GoodIn wsX7_holds wsX7_isTold := goodIn_r _ [7, 8, 9, 10, 11, 6, 12, 13, 14, 15, 16, 17, 18] (by decide +kernel) (by decide +kernel)
set_option maxRecDepth 20000 in
theorem gX7_holds_X7_isTold : GoodIn wsX7_holds (wsV RX7 31 RX7 yX7_isTold wsX7_isTold) := goodIn_app (goodIn_of _ (by decide +kernel)) ggX7_holds_X7_isTold
theorem dX7_holds_0 : decode cX7_holds 0 = .ok (.aload_n 0, 1) := by decide +kernel
theorem dX7_holds_1 : decode cX7_holds 1 = .ok (.iload_n 1, 1) := by decide +kernel
theorem dX7_holds_2 : decode cX7_holds 2 = .ok (.invokevirtual 31, 3) := by decide +kernel
theorem dX7_holds_5 : decode cX7_holds 5 = .ok (.ifCond .eq 27, 3) := by decide +kernel
theorem dX7_holds_8 : decode cX7_holds 8 = .ok (.iload_n 2, 1) := by decide +kernel
theorem dX7_holds_9 : decode cX7_holds 9 = .ok (.aload_n 0, 1) := by decide +kernel
theorem dX7_holds_10 : decode cX7_holds 10 = .ok (.getfield 13, 3) := by decide +kernel
theorem dX7_holds_13 : decode cX7_holds 13 = .ok (.iload_n 1, 1) := by decide +kernel
theorem dX7_holds_14 : decode cX7_holds 14 = .ok (.iaload, 1) := by decide +kernel
theorem dX7_holds_15 : decode cX7_holds 15 = .ok (.if_icmp .lt 17, 3) := by decide +kernel
theorem dX7_holds_18 : decode cX7_holds 18 = .ok (.iload_n 2, 1) := by decide +kernel
theorem dX7_holds_19 : decode cX7_holds 19 = .ok (.aload_n 0, 1) := by decide +kernel
theorem dX7_holds_20 : decode cX7_holds 20 = .ok (.getfield 17, 3) := by decide +kernel
theorem dX7_holds_23 : decode cX7_holds 23 = .ok (.iload_n 1, 1) := by decide +kernel
theorem dX7_holds_24 : decode cX7_holds 24 = .ok (.iaload, 1) := by decide +kernel
theorem dX7_holds_25 : decode cX7_holds 25 = .ok (.if_icmp .gt 7, 3) := by decide +kernel
theorem dX7_holds_28 : decode cX7_holds 28 = .ok (.iconst 1, 1) := by decide +kernel
theorem dX7_holds_29 : decode cX7_holds 29 = .ok (.goto 4, 3) := by decide +kernel
theorem dX7_holds_32 : decode cX7_holds 32 = .ok (.iconst 0, 1) := by decide +kernel
theorem dX7_holds_33 : decode cX7_holds 33 = .ok (.ireturn, 1) := by decide +kernel
theorem dJx00060_init_da8c8_0 : decode cJx00060_init_da8c8 0 = .ok (.aload_n 0, 1) := by decide +kernel
theorem dJx00060_init_da8c8_1 : decode cJx00060_init_da8c8 1 = .ok (.invokespecial 1, 3) := by decide +kernel
theorem dJx00060_init_da8c8_4 : decode cJx00060_init_da8c8 4 = .ok (.return_, 1) := by decide +kernel
