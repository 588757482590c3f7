theorem dX1_init_0 : decode cX1_init 0 = .ok (.aload_n 0, 1) := by decide +kernel
theorem dX1_init_1 : decode cX1_init 1 = .ok (.invokespecial 1, 3) := by decide +kernel
theorem dX1_init_4 : decode cX1_init 4 = .ok (.aload_n 0, 1) := by decide +kernel
theorem dX1_init_5 : decode cX1_init 5 = .ok (.iconst 0, 1) := by decide +kernel
theorem dX1_init_6 : decode cX1_init 6 = .ok (.newarray .int, 2) := by decide +kernel
theorem dX1_init_8 : decode cX1_init 8 = .ok (.putfield 7, 3) := by decide +kernel
theorem dX1_init_11 : decode cX1_init 11 = .ok (.aload_n 0, 1) := by decide +kernel
theorem dX1_init_12 : decode cX1_init 12 = .ok (.iconst 0, 1) := by decide +kernel
theorem dX1_init_13 : decode cX1_init 13 = .ok (.newarray .int, 2) := by decide +kernel
theorem dX1_init_15 : decode cX1_init 15 = .ok (.putfield 13, 3) := by decide +kernel
theorem dX1_init_18 : decode cX1_init 18 = .ok (.aload_n 0, 1) := by decide +kernel
theorem dX1_init_19 : decode cX1_init 19 = .ok (.aload_n 1, 1) := by decide +kernel
theorem dX1_init_20 : decode cX1_init 20 = .ok (.putfield 16, 3) := by decide +kernel
theorem dX1_init_23 : decode cX1_init 23 = .ok (.aload_n 0, 1) := by decide +kernel
theorem dX1_init_24 : decode cX1_init 24 = .ok (.aload_n 2, 1) := by decide +kernel
theorem dX1_init_25 : decode cX1_init 25 = .ok (.putfield 20, 3) := by decide +kernel
theorem dX1_init_28 : decode cX1_init 28 = .ok (.aload_n 0, 1) := by decide +kernel
theorem dX1_init_29 : decode cX1_init 29 = .ok (.aload_n 3, 1) := by decide +kernel
theorem dX1_init_30 : decode cX1_init 30 = .ok (.putfield 24, 3) := by decide +kernel
theorem dX1_init_33 : decode cX1_init 33 = .ok (.return_, 1) := by decide +kernel
set_option maxRecDepth 20000 in
theorem ggX1_derive_X7_roomFor : GoodIn wsX1_derive wsX7_roomFor := goodIn_r _ [9, 10, 11, 12, 13, 14] (by decide +kernel) (by decide +kernel)
set_option maxRecDepth 20000 in
theorem gX1_derive_X7_roomFor_n34 : GoodIn wsX1_derive (wsX7_roomFor) := ggX1_derive_X7_roomFor
set_option maxRecDepth 20000 in
theorem ggX1_derive_J7_fill_fda19 : GoodIn wsX1_derive wsJ7_fill_fda19 := goodIn_r _ [18, 19, 20, 17, 21, 22, 23, 24, 137, 138, 139, 140] (by decide +kernel) (by decide +kernel)
set_option maxRecDepth 20000 in
theorem gX1_derive_J7_fill_fda19 : GoodIn wsX1_derive (va_wsS RX1 45 yJ7_fill_fda19 wsJ7_fill_fda19) := goodIn_app (goodIn_of _ (by decide +kernel)) ggX1_derive_J7_fill_fda19
set_option maxRecDepth 20000 in
theorem ggX1_derive_X1_markRows : GoodIn wsX1_derive wsX1_markRows := goodIn_r _ [29, 30, 31, 1, 2, 32, 33, 34, 35, 36, 37, 38, 39, 40, 41, 42, 43, 44, 45, 46, 47, 48, 49, 50, 51, 52, 53, 54, 55, 56, 57, 58, 59, 60, 61, 62, 63, 64, 65, 66, 67, 68, 69, 70, 71, 114, 115, 116, 117, 118, 141, 142, 143, 144, 145, 146, 147, 148, 149, 150, 151, 152, 153, 154, 155, 119, 120, 121, 122, 123, 124, 125, 126, 127] (by decide +kernel) (by decide +kernel)
set_option maxRecDepth 20000 in
theorem gX1_derive_X1_markRows : GoodIn wsX1_derive (wsV RX1 51 RX1 yX1_markRows wsX1_markRows) := goodIn_app (goodIn_of _ (by decide +kernel)) ggX1_derive_X1_markRows
set_option maxRecDepth 20000 in
theorem ggX1_derive_X1_markNewVariables : GoodIn wsX1_derive wsX1_markNewVariables := goodIn_r _ [75, 2, 76, 1, 77, 78, 79, 50, 80, 81, 82, 83, 84, 85, 86, 87, 88, 89, 90, 91, 28, 92, 93, 94, 95, 96, 114, 115, 116, 117, 118, 119, 120, 121, 122, 123, 124, 125, 126, 127, 156, 157] (by decide +kernel) (by decide +kernel)
set_option maxRecDepth 20000 in
theorem gX1_derive_X1_markNewVariables : GoodIn wsX1_derive (wsV RX1 54 RX1 yX1_markNewVariables wsX1_markNewVariables) := goodIn_app (goodIn_of _ (by decide +kernel)) ggX1_derive_X1_markNewVariables
set_option maxRecDepth 20000 in
theorem ggX1_derive_X1_coverLiterals : GoodIn wsX1_derive wsX1_coverLiterals := goodIn_r _ [100, 2, 3, 4, 89, 90, 91, 28, 92, 1, 114, 115, 116, 117, 118, 119, 120, 121, 122, 123, 124, 125, 126, 127] (by decide +kernel) (by decide +kernel)
set_option maxRecDepth 20000 in
theorem gX1_derive_X1_coverLiterals : GoodIn wsX1_derive (wsV RX1 57 RX1 yX1_coverLiterals wsX1_coverLiterals) := goodIn_app (goodIn_of _ (by decide +kernel)) ggX1_derive_X1_coverLiterals
set_option maxRecDepth 20000 in
theorem ggX1_derive_X1_coverThrees : GoodIn wsX1_derive wsX1_coverThrees := goodIn_r _ [104, 2, 3, 4, 105, 106, 107, 50, 108, 109, 82, 110, 111, 112, 113, 88, 89, 90, 91, 28, 92, 1, 114, 115, 116, 117, 118, 119, 120, 121, 122, 123, 124, 125, 126, 127, 156, 157] (by decide +kernel) (by decide +kernel)
set_option maxRecDepth 20000 in
theorem gX1_derive_X1_coverThrees : GoodIn wsX1_derive (wsV RX1 60 RX1 yX1_coverThrees wsX1_coverThrees) := goodIn_app (goodIn_of _ (by decide +kernel)) ggX1_derive_X1_coverThrees
theorem dX1_derive_0 : decode cX1_derive 0 = .ok (.aload_n 0, 1) := by decide +kernel
theorem dX1_derive_1 : decode cX1_derive 1 = .ok (.aload_n 0, 1) := by decide +kernel
theorem dX1_derive_2 : decode cX1_derive 2 = .ok (.getfield 7, 3) := by decide +kernel
theorem dX1_derive_5 : decode cX1_derive 5 = .ok (.aload_n 0, 1) := by decide +kernel
theorem dX1_derive_6 : decode cX1_derive 6 = .ok (.getfield 20, 3) := by decide +kernel
theorem dX1_derive_9 : decode cX1_derive 9 = .ok (.getfield 28, 3) := by decide +kernel
theorem dX1_derive_12 : decode cX1_derive 12 = .ok (.invokestatic 34, 3) := by decide +kernel
theorem dX1_derive_15 : decode cX1_derive 15 = .ok (.putfield 7, 3) := by decide +kernel
theorem dX1_derive_18 : decode cX1_derive 18 = .ok (.aload_n 0, 1) := by decide +kernel
theorem dX1_derive_19 : decode cX1_derive 19 = .ok (.aload_n 0, 1) := by decide +kernel
theorem dX1_derive_20 : decode cX1_derive 20 = .ok (.getfield 13, 3) := by decide +kernel
theorem dX1_derive_23 : decode cX1_derive 23 = .ok (.aload_n 0, 1) := by decide +kernel
theorem dX1_derive_24 : decode cX1_derive 24 = .ok (.getfield 24, 3) := by decide +kernel
theorem dX1_derive_27 : decode cX1_derive 27 = .ok (.getfield 40, 3) := by decide +kernel
theorem dX1_derive_30 : decode cX1_derive 30 = .ok (.invokestatic 34, 3) := by decide +kernel
theorem dX1_derive_33 : decode cX1_derive 33 = .ok (.putfield 13, 3) := by decide +kernel
theorem dX1_derive_36 : decode cX1_derive 36 = .ok (.aload_n 0, 1) := by decide +kernel
theorem dX1_derive_37 : decode cX1_derive 37 = .ok (.getfield 7, 3) := by decide +kernel
theorem dX1_derive_40 : decode cX1_derive 40 = .ok (.iconst 0, 1) := by decide +kernel
theorem dX1_derive_41 : decode cX1_derive 41 = .ok (.aload_n 0, 1) := by decide +kernel
theorem dX1_derive_42 : decode cX1_derive 42 = .ok (.getfield 20, 3) := by decide +kernel
theorem dX1_derive_45 : decode cX1_derive 45 = .ok (.getfield 28, 3) := by decide +kernel
theorem dX1_derive_48 : decode cX1_derive 48 = .ok (.iconst 0, 1) := by decide +kernel
theorem dX1_derive_49 : decode cX1_derive 49 = .ok (.invokestatic 45, 3) := by decide +kernel
theorem dX1_derive_52 : decode cX1_derive 52 = .ok (.aload_n 0, 1) := by decide +kernel
theorem dX1_derive_53 : decode cX1_derive 53 = .ok (.invokevirtual 51, 3) := by decide +kernel
theorem dX1_derive_56 : decode cX1_derive 56 = .ok (.aload_n 0, 1) := by decide +kernel
theorem dX1_derive_57 : decode cX1_derive 57 = .ok (.invokevirtual 54, 3) := by decide +kernel
theorem dX1_derive_60 : decode cX1_derive 60 = .ok (.aload_n 0, 1) := by decide +kernel
theorem dX1_derive_61 : decode cX1_derive 61 = .ok (.invokevirtual 57, 3) := by decide +kernel
theorem dX1_derive_64 : decode cX1_derive 64 = .ok (.aload_n 0, 1) := by decide +kernel
theorem dX1_derive_65 : decode cX1_derive 65 = .ok (.invokevirtual 60, 3) := by decide +kernel
theorem dX1_derive_68 : decode cX1_derive 68 = .ok (.return_, 1) := by decide +kernel
set_option maxRecDepth 20000 in
theorem ggX1_markRows_X3_rows : GoodIn wsX1_markRows wsX3_rows := goodIn_r _ [14, 15, 55, 56, 57, 58, 59, 60, 61, 62, 63, 64] (by decide +kernel) (by decide +kernel)
set_option maxRecDepth 20000 in
theorem gX1_markRows_X3_rows : GoodIn wsX1_markRows (wsV RX1 69 RX3 yX3_rows wsX3_rows) := goodIn_app (goodIn_of _ (by decide +kernel)) ggX1_markRows_X3_rows
set_option maxRecDepth 20000 in
theorem ggX1_markRows_X3_cells : GoodIn wsX1_markRows wsX3_cells := goodIn_r _ [19, 15, 55, 56, 57, 58, 59, 60, 61, 62, 63, 64] (by decide +kernel) (by decide +kernel)
set_option maxRecDepth 20000 in
theorem gX1_markRows_X3_cells : GoodIn wsX1_markRows (wsV RX1 75 RX3 yX3_cells wsX3_cells) := goodIn_app (goodIn_of _ (by decide +kernel)) ggX1_markRows_X3_cells
set_option maxRecDepth 20000 in
theorem ggX1_markRows_X0_cellVariable : GoodIn wsX1_markRows wsX0_cellVariable := goodIn_r _ [24, 25, 26, 27, 17, 18, 13, 19, 15, 65, 66, 67, 68, 69, 70, 71, 72, 73, 55, 56, 57, 58, 59, 60, 61, 62, 63, 64] (by decide +kernel) (by decide +kernel)
set_option maxRecDepth 20000 in
theorem gX1_markRows_X0_cellVariable : GoodIn wsX1_markRows (wsV RX1 81 RX0 yX0_cellVariable wsX0_cellVariable) := goodIn_app (goodIn_of _ (by decide +kernel)) ggX1_markRows_X0_cellVariable
set_option maxRecDepth 20000 in
theorem ggX1_markRows_X0_headVariable : GoodIn wsX1_markRows wsX0_headVariable := goodIn_r _ [31, 32, 25, 27, 17, 18, 13, 19, 15, 65, 66, 67, 68, 69, 70, 71, 72, 73, 55, 56, 57, 58, 59, 60, 61, 62, 63, 64] (by decide +kernel) (by decide +kernel)
set_option maxRecDepth 20000 in
theorem gX1_markRows_X0_headVariable : GoodIn wsX1_markRows (wsV RX1 88 RX0 yX0_headVariable wsX0_headVariable) := goodIn_app (goodIn_of _ (by decide +kernel)) ggX1_markRows_X0_headVariable
set_option maxRecDepth 20000 in
theorem ggX1_markRows_X0_stateVariable : GoodIn wsX1_markRows wsX0_stateVariable := goodIn_r _ [36, 37, 25, 38, 65, 66, 67, 68, 69, 70, 71, 72, 73, 55, 56, 57, 58, 59, 60, 61, 62, 63, 64] (by decide +kernel) (by decide +kernel)
set_option maxRecDepth 20000 in
theorem gX1_markRows_X0_stateVariable : GoodIn wsX1_markRows (wsV RX1 95 RX0 yX0_stateVariable wsX0_stateVariable) := goodIn_app (goodIn_of _ (by decide +kernel)) ggX1_markRows_X0_stateVariable
set_option maxRecDepth 20000 in
theorem ggX1_markRows_X0_choiceVariable : GoodIn wsX1_markRows wsX0_choiceVariable := goodIn_r _ [42, 43, 25, 44, 65, 66, 67, 68, 69, 70, 71, 72, 73, 55, 56, 57, 58, 59, 60, 61, 62, 63, 64] (by decide +kernel) (by decide +kernel)
set_option maxRecDepth 20000 in
theorem gX1_markRows_X0_choiceVariable : GoodIn wsX1_markRows (wsV RX1 104 RX0 yX0_choiceVariable wsX0_choiceVariable) := goodIn_app (goodIn_of _ (by decide +kernel)) ggX1_markRows_X0_choiceVariable
theorem dX1_markRows_0 : decode cX1_markRows 0 = .ok (.aload_n 0, 1) := by decide +kernel
theorem dX1_markRows_1 : decode cX1_markRows 1 = .ok (.getfield 16, 3) := by decide +kernel
theorem dX1_markRows_4 : decode cX1_markRows 4 = .ok (.getfield 63, 3) := by decide +kernel
theorem dX1_markRows_7 : decode cX1_markRows 7 = .ok (.astore_n 1, 1) := by decide +kernel
theorem dX1_markRows_8 : decode cX1_markRows 8 = .ok (.iconst 0, 1) := by decide +kernel
theorem dX1_markRows_9 : decode cX1_markRows 9 = .ok (.istore_n 2, 1) := by decide +kernel
theorem dX1_markRows_10 : decode cX1_markRows 10 = .ok (.iload_n 2, 1) := by decide +kernel
theorem dX1_markRows_11 : decode cX1_markRows 11 = .ok (.aload_n 1, 1) := by decide +kernel
theorem dX1_markRows_12 : decode cX1_markRows 12 = .ok (.invokevirtual 69, 3) := by decide +kernel
theorem dX1_markRows_15 : decode cX1_markRows 15 = .ok (.if_icmp .ge 97, 3) := by decide +kernel
theorem dX1_markRows_18 : decode cX1_markRows 18 = .ok (.iconst 0, 1) := by decide +kernel
theorem dX1_markRows_19 : decode cX1_markRows 19 = .ok (.istore_n 3, 1) := by decide +kernel
theorem dX1_markRows_20 : decode cX1_markRows 20 = .ok (.iload_n 3, 1) := by decide +kernel
theorem dX1_markRows_21 : decode cX1_markRows 21 = .ok (.aload_n 1, 1) := by decide +kernel
theorem dX1_markRows_22 : decode cX1_markRows 22 = .ok (.invokevirtual 75, 3) := by decide +kernel
theorem dX1_markRows_25 : decode cX1_markRows 25 = .ok (.if_icmp .ge 35, 3) := by decide +kernel
theorem dX1_markRows_28 : decode cX1_markRows 28 = .ok (.aload_n 0, 1) := by decide +kernel
theorem dX1_markRows_29 : decode cX1_markRows 29 = .ok (.getfield 7, 3) := by decide +kernel
theorem dX1_markRows_32 : decode cX1_markRows 32 = .ok (.aload_n 0, 1) := by decide +kernel
theorem dX1_markRows_33 : decode cX1_markRows 33 = .ok (.getfield 20, 3) := by decide +kernel
theorem dX1_markRows_36 : decode cX1_markRows 36 = .ok (.iload_n 2, 1) := by decide +kernel
theorem dX1_markRows_37 : decode cX1_markRows 37 = .ok (.iload_n 3, 1) := by decide +kernel
theorem dX1_markRows_38 : decode cX1_markRows 38 = .ok (.aload_n 0, 1) := by decide +kernel
theorem dX1_markRows_39 : decode cX1_markRows 39 = .ok (.getfield 16, 3) := by decide +kernel
theorem dX1_markRows_42 : decode cX1_markRows 42 = .ok (.getfield 78, 3) := by decide +kernel
theorem dX1_markRows_45 : decode cX1_markRows 45 = .ok (.iload_n 2, 1) := by decide +kernel
theorem dX1_markRows_46 : decode cX1_markRows 46 = .ok (.aaload, 1) := by decide +kernel
theorem dX1_markRows_47 : decode cX1_markRows 47 = .ok (.iload_n 3, 1) := by decide +kernel
theorem dX1_markRows_48 : decode cX1_markRows 48 = .ok (.iaload, 1) := by decide +kernel
theorem dX1_markRows_49 : decode cX1_markRows 49 = .ok (.invokevirtual 81, 3) := by decide +kernel
theorem dX1_markRows_52 : decode cX1_markRows 52 = .ok (.iconst 1, 1) := by decide +kernel
theorem dX1_markRows_53 : decode cX1_markRows 53 = .ok (.iastore, 1) := by decide +kernel
theorem dX1_markRows_54 : decode cX1_markRows 54 = .ok (.iinc 3 1, 3) := by decide +kernel
theorem dX1_markRows_57 : decode cX1_markRows 57 = .ok (.goto (-37), 3) := by decide +kernel
theorem dX1_markRows_60 : decode cX1_markRows 60 = .ok (.aload_n 0, 1) := by decide +kernel
theorem dX1_markRows_61 : decode cX1_markRows 61 = .ok (.getfield 7, 3) := by decide +kernel
theorem dX1_markRows_64 : decode cX1_markRows 64 = .ok (.aload_n 0, 1) := by decide +kernel
theorem dX1_markRows_65 : decode cX1_markRows 65 = .ok (.getfield 20, 3) := by decide +kernel
theorem dX1_markRows_68 : decode cX1_markRows 68 = .ok (.iload_n 2, 1) := by decide +kernel
theorem dX1_markRows_69 : decode cX1_markRows 69 = .ok (.aload_n 0, 1) := by decide +kernel
theorem dX1_markRows_70 : decode cX1_markRows 70 = .ok (.getfield 16, 3) := by decide +kernel
theorem dX1_markRows_73 : decode cX1_markRows 73 = .ok (.getfield 85, 3) := by decide +kernel
theorem dX1_markRows_76 : decode cX1_markRows 76 = .ok (.iload_n 2, 1) := by decide +kernel
theorem dX1_markRows_77 : decode cX1_markRows 77 = .ok (.iaload, 1) := by decide +kernel
theorem dX1_markRows_78 : decode cX1_markRows 78 = .ok (.invokevirtual 88, 3) := by decide +kernel
theorem dX1_markRows_81 : decode cX1_markRows 81 = .ok (.iconst 1, 1) := by decide +kernel
theorem dX1_markRows_82 : decode cX1_markRows 82 = .ok (.iastore, 1) := by decide +kernel
theorem dX1_markRows_83 : decode cX1_markRows 83 = .ok (.aload_n 0, 1) := by decide +kernel
theorem dX1_markRows_84 : decode cX1_markRows 84 = .ok (.getfield 7, 3) := by decide +kernel
theorem dX1_markRows_87 : decode cX1_markRows 87 = .ok (.aload_n 0, 1) := by decide +kernel
theorem dX1_markRows_88 : decode cX1_markRows 88 = .ok (.getfield 20, 3) := by decide +kernel
theorem dX1_markRows_91 : decode cX1_markRows 91 = .ok (.iload_n 2, 1) := by decide +kernel
theorem dX1_markRows_92 : decode cX1_markRows 92 = .ok (.aload_n 0, 1) := by decide +kernel
theorem dX1_markRows_93 : decode cX1_markRows 93 = .ok (.getfield 16, 3) := by decide +kernel
theorem dX1_markRows_96 : decode cX1_markRows 96 = .ok (.getfield 92, 3) := by decide +kernel
theorem dX1_markRows_99 : decode cX1_markRows 99 = .ok (.iload_n 2, 1) := by decide +kernel
theorem dX1_markRows_100 : decode cX1_markRows 100 = .ok (.iaload, 1) := by decide +kernel
theorem dX1_markRows_101 : decode cX1_markRows 101 = .ok (.invokevirtual 95, 3) := by decide +kernel
theorem dX1_markRows_104 : decode cX1_markRows 104 = .ok (.iconst 1, 1) := by decide +kernel
theorem dX1_markRows_105 : decode cX1_markRows 105 = .ok (.iastore, 1) := by decide +kernel
theorem dX1_markRows_106 : decode cX1_markRows 106 = .ok (.iinc 2 1, 3) := by decide +kernel
theorem dX1_markRows_109 : decode cX1_markRows 109 = .ok (.goto (-99), 3) := by decide +kernel
theorem dX1_markRows_112 : decode cX1_markRows 112 = .ok (.iconst 0, 1) := by decide +kernel
theorem dX1_markRows_113 : decode cX1_markRows 113 = .ok (.istore_n 2, 1) := by decide +kernel
theorem dX1_markRows_114 : decode cX1_markRows 114 = .ok (.iload_n 2, 1) := by decide +kernel
theorem dX1_markRows_115 : decode cX1_markRows 115 = .ok (.aload_n 1, 1) := by decide +kernel
theorem dX1_markRows_116 : decode cX1_markRows 116 = .ok (.getfield 98, 3) := by decide +kernel
theorem dX1_markRows_119 : decode cX1_markRows 119 = .ok (.if_icmp .ge 32, 3) := by decide +kernel
theorem dX1_markRows_122 : decode cX1_markRows 122 = .ok (.aload_n 0, 1) := by decide +kernel
theorem dX1_markRows_123 : decode cX1_markRows 123 = .ok (.getfield 7, 3) := by decide +kernel
theorem dX1_markRows_126 : decode cX1_markRows 126 = .ok (.aload_n 0, 1) := by decide +kernel
theorem dX1_markRows_127 : decode cX1_markRows 127 = .ok (.getfield 20, 3) := by decide +kernel
theorem dX1_markRows_130 : decode cX1_markRows 130 = .ok (.iload_n 2, 1) := by decide +kernel
theorem dX1_markRows_131 : decode cX1_markRows 131 = .ok (.aload_n 0, 1) := by decide +kernel
theorem dX1_markRows_132 : decode cX1_markRows 132 = .ok (.getfield 16, 3) := by decide +kernel
theorem dX1_markRows_135 : decode cX1_markRows 135 = .ok (.getfield 101, 3) := by decide +kernel
theorem dX1_markRows_138 : decode cX1_markRows 138 = .ok (.iload_n 2, 1) := by decide +kernel
theorem dX1_markRows_139 : decode cX1_markRows 139 = .ok (.iaload, 1) := by decide +kernel
theorem dX1_markRows_140 : decode cX1_markRows 140 = .ok (.invokevirtual 104, 3) := by decide +kernel
theorem dX1_markRows_143 : decode cX1_markRows 143 = .ok (.iconst 1, 1) := by decide +kernel
theorem dX1_markRows_144 : decode cX1_markRows 144 = .ok (.iastore, 1) := by decide +kernel
theorem dX1_markRows_145 : decode cX1_markRows 145 = .ok (.iinc 2 1, 3) := by decide +kernel
theorem dX1_markRows_148 : decode cX1_markRows 148 = .ok (.goto (-34), 3) := by decide +kernel
theorem dX1_markRows_151 : decode cX1_markRows 151 = .ok (.return_, 1) := by decide +kernel
set_option maxRecDepth 20000 in
theorem ggX1_markNewVariables_X0_clauses : GoodIn wsX1_markNewVariables wsX0_clauses := goodIn_r _ [8, 9, 10, 31, 32, 33, 34, 35, 36, 37, 38, 39, 40, 41] (by decide +kernel) (by decide +kernel)
set_option maxRecDepth 20000 in
theorem gX1_markNewVariables_X0_clauses : GoodIn wsX1_markNewVariables (wsV RX1 110 RX0 yX0_clauses wsX0_clauses) := goodIn_app (goodIn_of _ (by decide +kernel)) ggX1_markNewVariables_X0_clauses
set_option maxRecDepth 20000 in
theorem ggX1_markNewVariables_X0_literalOf : GoodIn wsX1_markNewVariables wsX0_literalOf := goodIn_r _ [14, 15, 16, 9, 31, 32, 33, 34, 35, 36, 37, 38, 39, 40, 41] (by decide +kernel) (by decide +kernel)
set_option maxRecDepth 20000 in
theorem gX1_markNewVariables_X0_literalOf : GoodIn wsX1_markNewVariables (wsV RX1 113 RX0 yX0_literalOf wsX0_literalOf) := goodIn_app (goodIn_of _ (by decide +kernel)) ggX1_markNewVariables_X0_literalOf
set_option maxRecDepth 20000 in
theorem ggX1_markNewVariables_X1_isTrue : GoodIn wsX1_markNewVariables wsX1_isTrue := goodIn_r _ [21, 3, 26, 27, 28, 29, 30] (by decide +kernel) (by decide +kernel)
set_option maxRecDepth 20000 in
theorem gX1_markNewVariables_X1_isTrue : GoodIn wsX1_markNewVariables (wsV RX1 116 RX1 yX1_isTrue wsX1_isTrue) := goodIn_app (goodIn_of _ (by decide +kernel)) ggX1_markNewVariables_X1_isTrue
set_option maxRecDepth 20000 in
theorem ggX1_markNewVariables_X0_length : GoodIn wsX1_markNewVariables wsX0_length := goodIn_r _ [25, 9, 16, 31, 32, 33, 34, 35, 36, 37, 38, 39, 40, 41] (by decide +kernel) (by decide +kernel)
set_option maxRecDepth 20000 in
theorem gX1_markNewVariables_X0_length : GoodIn wsX1_markNewVariables (wsV RX1 120 RX0 yX0_length wsX0_length) := goodIn_app (goodIn_of _ (by decide +kernel)) ggX1_markNewVariables_X0_length
theorem dX1_markNewVariables_0 : decode cX1_markNewVariables 0 = .ok (.aload_n 0, 1) := by decide +kernel
theorem dX1_markNewVariables_1 : decode cX1_markNewVariables 1 = .ok (.getfield 20, 3) := by decide +kernel
theorem dX1_markNewVariables_4 : decode cX1_markNewVariables 4 = .ok (.getfield 107, 3) := by decide +kernel
theorem dX1_markNewVariables_7 : decode cX1_markNewVariables 7 = .ok (.istore_n 1, 1) := by decide +kernel
theorem dX1_markNewVariables_8 : decode cX1_markNewVariables 8 = .ok (.iconst 0, 1) := by decide +kernel
theorem dX1_markNewVariables_9 : decode cX1_markNewVariables 9 = .ok (.istore_n 2, 1) := by decide +kernel
theorem dX1_markNewVariables_10 : decode cX1_markNewVariables 10 = .ok (.iload_n 2, 1) := by decide +kernel
theorem dX1_markNewVariables_11 : decode cX1_markNewVariables 11 = .ok (.aload_n 0, 1) := by decide +kernel
theorem dX1_markNewVariables_12 : decode cX1_markNewVariables 12 = .ok (.getfield 20, 3) := by decide +kernel
theorem dX1_markNewVariables_15 : decode cX1_markNewVariables 15 = .ok (.invokevirtual 110, 3) := by decide +kernel
theorem dX1_markNewVariables_18 : decode cX1_markNewVariables 18 = .ok (.if_icmp .ge 96, 3) := by decide +kernel
theorem dX1_markNewVariables_21 : decode cX1_markNewVariables 21 = .ok (.aload_n 0, 1) := by decide +kernel
theorem dX1_markNewVariables_22 : decode cX1_markNewVariables 22 = .ok (.aload_n 0, 1) := by decide +kernel
theorem dX1_markNewVariables_23 : decode cX1_markNewVariables 23 = .ok (.getfield 20, 3) := by decide +kernel
theorem dX1_markNewVariables_26 : decode cX1_markNewVariables 26 = .ok (.iload_n 2, 1) := by decide +kernel
theorem dX1_markNewVariables_27 : decode cX1_markNewVariables 27 = .ok (.iconst 0, 1) := by decide +kernel
theorem dX1_markNewVariables_28 : decode cX1_markNewVariables 28 = .ok (.invokevirtual 113, 3) := by decide +kernel
theorem dX1_markNewVariables_31 : decode cX1_markNewVariables 31 = .ok (.invokevirtual 116, 3) := by decide +kernel
theorem dX1_markNewVariables_34 : decode cX1_markNewVariables 34 = .ok (.istore_n 3, 1) := by decide +kernel
theorem dX1_markNewVariables_35 : decode cX1_markNewVariables 35 = .ok (.aload_n 0, 1) := by decide +kernel
theorem dX1_markNewVariables_36 : decode cX1_markNewVariables 36 = .ok (.getfield 20, 3) := by decide +kernel
theorem dX1_markNewVariables_39 : decode cX1_markNewVariables 39 = .ok (.iload_n 2, 1) := by decide +kernel
theorem dX1_markNewVariables_40 : decode cX1_markNewVariables 40 = .ok (.invokevirtual 120, 3) := by decide +kernel
theorem dX1_markNewVariables_43 : decode cX1_markNewVariables 43 = .ok (.iconst 3, 1) := by decide +kernel
theorem dX1_markNewVariables_44 : decode cX1_markNewVariables 44 = .ok (.isub, 1) := by decide +kernel
theorem dX1_markNewVariables_45 : decode cX1_markNewVariables 45 = .ok (.istore 4, 2) := by decide +kernel
theorem dX1_markNewVariables_47 : decode cX1_markNewVariables 47 = .ok (.iconst 1, 1) := by decide +kernel
theorem dX1_markNewVariables_48 : decode cX1_markNewVariables 48 = .ok (.istore 5, 2) := by decide +kernel
theorem dX1_markNewVariables_50 : decode cX1_markNewVariables 50 = .ok (.iload 5, 2) := by decide +kernel
theorem dX1_markNewVariables_52 : decode cX1_markNewVariables 52 = .ok (.iload 4, 2) := by decide +kernel
theorem dX1_markNewVariables_54 : decode cX1_markNewVariables 54 = .ok (.if_icmp .gt 54, 3) := by decide +kernel
theorem dX1_markNewVariables_57 : decode cX1_markNewVariables 57 = .ok (.iload_n 3, 1) := by decide +kernel
theorem dX1_markNewVariables_58 : decode cX1_markNewVariables 58 = .ok (.ifCond .ne 20, 3) := by decide +kernel
theorem dX1_markNewVariables_61 : decode cX1_markNewVariables 61 = .ok (.aload_n 0, 1) := by decide +kernel
theorem dX1_markNewVariables_62 : decode cX1_markNewVariables 62 = .ok (.aload_n 0, 1) := by decide +kernel
theorem dX1_markNewVariables_63 : decode cX1_markNewVariables 63 = .ok (.getfield 20, 3) := by decide +kernel
theorem dX1_markNewVariables_66 : decode cX1_markNewVariables 66 = .ok (.iload_n 2, 1) := by decide +kernel
theorem dX1_markNewVariables_67 : decode cX1_markNewVariables 67 = .ok (.iload 5, 2) := by decide +kernel
theorem dX1_markNewVariables_69 : decode cX1_markNewVariables 69 = .ok (.invokevirtual 113, 3) := by decide +kernel
theorem dX1_markNewVariables_72 : decode cX1_markNewVariables 72 = .ok (.invokevirtual 116, 3) := by decide +kernel
theorem dX1_markNewVariables_75 : decode cX1_markNewVariables 75 = .ok (.ifCond .eq 7, 3) := by decide +kernel
theorem dX1_markNewVariables_78 : decode cX1_markNewVariables 78 = .ok (.iconst 1, 1) := by decide +kernel
theorem dX1_markNewVariables_79 : decode cX1_markNewVariables 79 = .ok (.goto 4, 3) := by decide +kernel
theorem dX1_markNewVariables_82 : decode cX1_markNewVariables 82 = .ok (.iconst 0, 1) := by decide +kernel
theorem dX1_markNewVariables_83 : decode cX1_markNewVariables 83 = .ok (.istore_n 3, 1) := by decide +kernel
theorem dX1_markNewVariables_84 : decode cX1_markNewVariables 84 = .ok (.aload_n 0, 1) := by decide +kernel
theorem dX1_markNewVariables_85 : decode cX1_markNewVariables 85 = .ok (.getfield 7, 3) := by decide +kernel
theorem dX1_markNewVariables_88 : decode cX1_markNewVariables 88 = .ok (.iload_n 1, 1) := by decide +kernel
theorem dX1_markNewVariables_89 : decode cX1_markNewVariables 89 = .ok (.iload_n 3, 1) := by decide +kernel
theorem dX1_markNewVariables_90 : decode cX1_markNewVariables 90 = .ok (.ifCond .eq 7, 3) := by decide +kernel
theorem dX1_markNewVariables_93 : decode cX1_markNewVariables 93 = .ok (.iconst 0, 1) := by decide +kernel
theorem dX1_markNewVariables_94 : decode cX1_markNewVariables 94 = .ok (.goto 4, 3) := by decide +kernel
theorem dX1_markNewVariables_97 : decode cX1_markNewVariables 97 = .ok (.iconst 1, 1) := by decide +kernel
theorem dX1_markNewVariables_98 : decode cX1_markNewVariables 98 = .ok (.iastore, 1) := by decide +kernel
theorem dX1_markNewVariables_99 : decode cX1_markNewVariables 99 = .ok (.iinc 1 1, 3) := by decide +kernel
theorem dX1_markNewVariables_102 : decode cX1_markNewVariables 102 = .ok (.iinc 5 1, 3) := by decide +kernel
theorem dX1_markNewVariables_105 : decode cX1_markNewVariables 105 = .ok (.goto (-55), 3) := by decide +kernel
theorem dX1_markNewVariables_108 : decode cX1_markNewVariables 108 = .ok (.iinc 2 1, 3) := by decide +kernel
theorem dX1_markNewVariables_111 : decode cX1_markNewVariables 111 = .ok (.goto (-101), 3) := by decide +kernel
theorem dX1_markNewVariables_114 : decode cX1_markNewVariables 114 = .ok (.return_, 1) := by decide +kernel
set_option maxRecDepth 20000 in
theorem ggX1_coverLiterals_X1_isTrue : GoodIn wsX1_coverLiterals wsX1_isTrue := goodIn_r _ [8, 9, 10, 11, 12, 13, 14] (by decide +kernel) (by decide +kernel)
set_option maxRecDepth 20000 in
theorem gX1_coverLiterals_X1_isTrue : GoodIn wsX1_coverLiterals (wsV RX1 116 RX1 yX1_isTrue wsX1_isTrue) := goodIn_app (goodIn_of _ (by decide +kernel)) ggX1_coverLiterals_X1_isTrue
theorem dX1_coverLiterals_0 : decode cX1_coverLiterals 0 = .ok (.iconst 0, 1) := by decide +kernel
theorem dX1_coverLiterals_1 : decode cX1_coverLiterals 1 = .ok (.istore_n 1, 1) := by decide +kernel
theorem dX1_coverLiterals_2 : decode cX1_coverLiterals 2 = .ok (.iload_n 1, 1) := by decide +kernel
theorem dX1_coverLiterals_3 : decode cX1_coverLiterals 3 = .ok (.iconst 2, 1) := by decide +kernel
theorem dX1_coverLiterals_4 : decode cX1_coverLiterals 4 = .ok (.aload_n 0, 1) := by decide +kernel
theorem dX1_coverLiterals_5 : decode cX1_coverLiterals 5 = .ok (.getfield 20, 3) := by decide +kernel
theorem dX1_coverLiterals_8 : decode cX1_coverLiterals 8 = .ok (.getfield 28, 3) := by decide +kernel
theorem dX1_coverLiterals_11 : decode cX1_coverLiterals 11 = .ok (.imul, 1) := by decide +kernel
theorem dX1_coverLiterals_12 : decode cX1_coverLiterals 12 = .ok (.if_icmp .ge 28, 3) := by decide +kernel
theorem dX1_coverLiterals_15 : decode cX1_coverLiterals 15 = .ok (.aload_n 0, 1) := by decide +kernel
theorem dX1_coverLiterals_16 : decode cX1_coverLiterals 16 = .ok (.getfield 13, 3) := by decide +kernel
theorem dX1_coverLiterals_19 : decode cX1_coverLiterals 19 = .ok (.iload_n 1, 1) := by decide +kernel
theorem dX1_coverLiterals_20 : decode cX1_coverLiterals 20 = .ok (.aload_n 0, 1) := by decide +kernel
theorem dX1_coverLiterals_21 : decode cX1_coverLiterals 21 = .ok (.iload_n 1, 1) := by decide +kernel
theorem dX1_coverLiterals_22 : decode cX1_coverLiterals 22 = .ok (.invokevirtual 116, 3) := by decide +kernel
theorem dX1_coverLiterals_25 : decode cX1_coverLiterals 25 = .ok (.ifCond .eq 7, 3) := by decide +kernel
theorem dX1_coverLiterals_28 : decode cX1_coverLiterals 28 = .ok (.iconst 1, 1) := by decide +kernel
theorem dX1_coverLiterals_29 : decode cX1_coverLiterals 29 = .ok (.goto 4, 3) := by decide +kernel
theorem dX1_coverLiterals_32 : decode cX1_coverLiterals 32 = .ok (.iconst 0, 1) := by decide +kernel
theorem dX1_coverLiterals_33 : decode cX1_coverLiterals 33 = .ok (.iastore, 1) := by decide +kernel
theorem dX1_coverLiterals_34 : decode cX1_coverLiterals 34 = .ok (.iinc 1 1, 3) := by decide +kernel
theorem dX1_coverLiterals_37 : decode cX1_coverLiterals 37 = .ok (.goto (-35), 3) := by decide +kernel
theorem dX1_coverLiterals_40 : decode cX1_coverLiterals 40 = .ok (.return_, 1) := by decide +kernel
set_option maxRecDepth 20000 in
theorem ggX1_coverThrees_X0_threes : GoodIn wsX1_coverThrees wsX0_threes := goodIn_r _ [8, 9, 10, 27, 28, 29, 30, 31, 32, 33, 34, 35, 36, 37] (by decide +kernel) (by decide +kernel)
set_option maxRecDepth 20000 in
theorem gX1_coverThrees_X0_threes : GoodIn wsX1_coverThrees (wsV RX1 124 RX0 yX0_threes wsX0_threes) := goodIn_app (goodIn_of _ (by decide +kernel)) ggX1_coverThrees_X0_threes
set_option maxRecDepth 20000 in
theorem ggX1_coverThrees_X0_literalOfThree : GoodIn wsX1_coverThrees wsX0_literalOfThree := goodIn_r _ [14, 9, 15, 27, 28, 29, 30, 31, 32, 33, 34, 35, 36, 37] (by decide +kernel) (by decide +kernel)
set_option maxRecDepth 20000 in
theorem gX1_coverThrees_X0_literalOfThree : GoodIn wsX1_coverThrees (wsV RX1 127 RX0 yX0_literalOfThree wsX0_literalOfThree) := goodIn_app (goodIn_of _ (by decide +kernel)) ggX1_coverThrees_X0_literalOfThree
set_option maxRecDepth 20000 in
theorem ggX1_coverThrees_X1_isTrue : GoodIn wsX1_coverThrees wsX1_isTrue := goodIn_r _ [20, 21, 22, 23, 24, 25, 26] (by decide +kernel) (by decide +kernel)
set_option maxRecDepth 20000 in
theorem gX1_coverThrees_X1_isTrue : GoodIn wsX1_coverThrees (wsV RX1 116 RX1 yX1_isTrue wsX1_isTrue) := goodIn_app (goodIn_of _ (by decide +kernel)) ggX1_coverThrees_X1_isTrue
theorem dX1_coverThrees_0 : decode cX1_coverThrees 0 = .ok (.iconst 2, 1) := by decide +kernel
theorem dX1_coverThrees_1 : decode cX1_coverThrees 1 = .ok (.aload_n 0, 1) := by decide +kernel
theorem dX1_coverThrees_2 : decode cX1_coverThrees 2 = .ok (.getfield 20, 3) := by decide +kernel
theorem dX1_coverThrees_5 : decode cX1_coverThrees 5 = .ok (.getfield 28, 3) := by decide +kernel
theorem dX1_coverThrees_8 : decode cX1_coverThrees 8 = .ok (.imul, 1) := by decide +kernel
theorem dX1_coverThrees_9 : decode cX1_coverThrees 9 = .ok (.istore_n 1, 1) := by decide +kernel
theorem dX1_coverThrees_10 : decode cX1_coverThrees 10 = .ok (.iconst 0, 1) := by decide +kernel
theorem dX1_coverThrees_11 : decode cX1_coverThrees 11 = .ok (.istore_n 2, 1) := by decide +kernel
theorem dX1_coverThrees_12 : decode cX1_coverThrees 12 = .ok (.iload_n 2, 1) := by decide +kernel
theorem dX1_coverThrees_13 : decode cX1_coverThrees 13 = .ok (.aload_n 0, 1) := by decide +kernel
theorem dX1_coverThrees_14 : decode cX1_coverThrees 14 = .ok (.getfield 20, 3) := by decide +kernel
theorem dX1_coverThrees_17 : decode cX1_coverThrees 17 = .ok (.invokevirtual 124, 3) := by decide +kernel
theorem dX1_coverThrees_20 : decode cX1_coverThrees 20 = .ok (.if_icmp .ge 88, 3) := by decide +kernel
theorem dX1_coverThrees_23 : decode cX1_coverThrees 23 = .ok (.iconst 0, 1) := by decide +kernel
theorem dX1_coverThrees_24 : decode cX1_coverThrees 24 = .ok (.istore_n 3, 1) := by decide +kernel
theorem dX1_coverThrees_25 : decode cX1_coverThrees 25 = .ok (.iconst 0, 1) := by decide +kernel
theorem dX1_coverThrees_26 : decode cX1_coverThrees 26 = .ok (.istore 4, 2) := by decide +kernel
theorem dX1_coverThrees_28 : decode cX1_coverThrees 28 = .ok (.iload 4, 2) := by decide +kernel
theorem dX1_coverThrees_30 : decode cX1_coverThrees 30 = .ok (.iconst 3, 1) := by decide +kernel
theorem dX1_coverThrees_31 : decode cX1_coverThrees 31 = .ok (.if_icmp .ge 71, 3) := by decide +kernel
theorem dX1_coverThrees_34 : decode cX1_coverThrees 34 = .ok (.iload_n 3, 1) := by decide +kernel
theorem dX1_coverThrees_35 : decode cX1_coverThrees 35 = .ok (.ifCond .ne 24, 3) := by decide +kernel
theorem dX1_coverThrees_38 : decode cX1_coverThrees 38 = .ok (.aload_n 0, 1) := by decide +kernel
theorem dX1_coverThrees_39 : decode cX1_coverThrees 39 = .ok (.aload_n 0, 1) := by decide +kernel
theorem dX1_coverThrees_40 : decode cX1_coverThrees 40 = .ok (.getfield 20, 3) := by decide +kernel
theorem dX1_coverThrees_43 : decode cX1_coverThrees 43 = .ok (.iload_n 2, 1) := by decide +kernel
theorem dX1_coverThrees_44 : decode cX1_coverThrees 44 = .ok (.iload 4, 2) := by decide +kernel
theorem dX1_coverThrees_46 : decode cX1_coverThrees 46 = .ok (.invokevirtual 127, 3) := by decide +kernel
theorem dX1_coverThrees_49 : decode cX1_coverThrees 49 = .ok (.invokevirtual 116, 3) := by decide +kernel
theorem dX1_coverThrees_52 : decode cX1_coverThrees 52 = .ok (.ifCond .eq 7, 3) := by decide +kernel
theorem dX1_coverThrees_55 : decode cX1_coverThrees 55 = .ok (.iconst 1, 1) := by decide +kernel
theorem dX1_coverThrees_56 : decode cX1_coverThrees 56 = .ok (.goto 4, 3) := by decide +kernel
theorem dX1_coverThrees_59 : decode cX1_coverThrees 59 = .ok (.iconst 0, 1) := by decide +kernel
theorem dX1_coverThrees_60 : decode cX1_coverThrees 60 = .ok (.istore 5, 2) := by decide +kernel
theorem dX1_coverThrees_62 : decode cX1_coverThrees 62 = .ok (.aload_n 0, 1) := by decide +kernel
theorem dX1_coverThrees_63 : decode cX1_coverThrees 63 = .ok (.getfield 13, 3) := by decide +kernel
theorem dX1_coverThrees_66 : decode cX1_coverThrees 66 = .ok (.iload_n 1, 1) := by decide +kernel
theorem dX1_coverThrees_67 : decode cX1_coverThrees 67 = .ok (.iload 5, 2) := by decide +kernel
theorem dX1_coverThrees_69 : decode cX1_coverThrees 69 = .ok (.ifCond .eq 7, 3) := by decide +kernel
theorem dX1_coverThrees_72 : decode cX1_coverThrees 72 = .ok (.iconst 0, 1) := by decide +kernel
theorem dX1_coverThrees_73 : decode cX1_coverThrees 73 = .ok (.goto 4, 3) := by decide +kernel
theorem dX1_coverThrees_76 : decode cX1_coverThrees 76 = .ok (.iconst 1, 1) := by decide +kernel
theorem dX1_coverThrees_77 : decode cX1_coverThrees 77 = .ok (.iastore, 1) := by decide +kernel
theorem dX1_coverThrees_78 : decode cX1_coverThrees 78 = .ok (.iload_n 3, 1) := by decide +kernel
theorem dX1_coverThrees_79 : decode cX1_coverThrees 79 = .ok (.ifCond .ne 8, 3) := by decide +kernel
theorem dX1_coverThrees_82 : decode cX1_coverThrees 82 = .ok (.iload 5, 2) := by decide +kernel
theorem dX1_coverThrees_84 : decode cX1_coverThrees 84 = .ok (.ifCond .eq 7, 3) := by decide +kernel
theorem dX1_coverThrees_87 : decode cX1_coverThrees 87 = .ok (.iconst 1, 1) := by decide +kernel
theorem dX1_coverThrees_88 : decode cX1_coverThrees 88 = .ok (.goto 4, 3) := by decide +kernel
theorem dX1_coverThrees_91 : decode cX1_coverThrees 91 = .ok (.iconst 0, 1) := by decide +kernel
theorem dX1_coverThrees_92 : decode cX1_coverThrees 92 = .ok (.istore_n 3, 1) := by decide +kernel
theorem dX1_coverThrees_93 : decode cX1_coverThrees 93 = .ok (.iinc 1 1, 3) := by decide +kernel
theorem dX1_coverThrees_96 : decode cX1_coverThrees 96 = .ok (.iinc 4 1, 3) := by decide +kernel
theorem dX1_coverThrees_99 : decode cX1_coverThrees 99 = .ok (.goto (-71), 3) := by decide +kernel
theorem dX1_coverThrees_102 : decode cX1_coverThrees 102 = .ok (.iinc 2 1, 3) := by decide +kernel
theorem dX1_coverThrees_105 : decode cX1_coverThrees 105 = .ok (.goto (-93), 3) := by decide +kernel
theorem dX1_coverThrees_108 : decode cX1_coverThrees 108 = .ok (.return_, 1) := by decide +kernel
theorem dX1_isTrue_0 : decode cX1_isTrue 0 = .ok (.aload_n 0, 1) := by decide +kernel
theorem dX1_isTrue_1 : decode cX1_isTrue 1 = .ok (.getfield 7, 3) := by decide +kernel
theorem dX1_isTrue_4 : decode cX1_isTrue 4 = .ok (.iload_n 1, 1) := by decide +kernel
theorem dX1_isTrue_5 : decode cX1_isTrue 5 = .ok (.iconst 2, 1) := by decide +kernel
theorem dX1_isTrue_6 : decode cX1_isTrue 6 = .ok (.idiv, 1) := by decide +kernel
theorem dX1_isTrue_7 : decode cX1_isTrue 7 = .ok (.iaload, 1) := by decide +kernel
theorem dX1_isTrue_8 : decode cX1_isTrue 8 = .ok (.iload_n 1, 1) := by decide +kernel
theorem dX1_isTrue_9 : decode cX1_isTrue 9 = .ok (.iconst 2, 1) := by decide +kernel
theorem dX1_isTrue_10 : decode cX1_isTrue 10 = .ok (.irem, 1) := by decide +kernel
theorem dX1_isTrue_11 : decode cX1_isTrue 11 = .ok (.if_icmp .eq 7, 3) := by decide +kernel
theorem dX1_isTrue_14 : decode cX1_isTrue 14 = .ok (.iconst 1, 1) := by decide +kernel
theorem dX1_isTrue_15 : decode cX1_isTrue 15 = .ok (.goto 4, 3) := by decide +kernel
theorem dX1_isTrue_18 : decode cX1_isTrue 18 = .ok (.iconst 0, 1) := by decide +kernel
theorem dX1_isTrue_19 : decode cX1_isTrue 19 = .ok (.ireturn, 1) := by decide +kernel
theorem dX2_init_0 : decode cX2_init 0 = .ok (.aload_n 0, 1) := by decide +kernel
theorem dX2_init_1 : decode cX2_init 1 = .ok (.invokespecial 1, 3) := by decide +kernel
theorem dX2_init_4 : decode cX2_init 4 = .ok (.aload_n 0, 1) := by decide +kernel
theorem dX2_init_5 : decode cX2_init 5 = .ok (.iconst 0, 1) := by decide +kernel
theorem dX2_init_6 : decode cX2_init 6 = .ok (.newarray .int, 2) := by decide +kernel
theorem dX2_init_8 : decode cX2_init 8 = .ok (.putfield 7, 3) := by decide +kernel
theorem dX2_init_11 : decode cX2_init 11 = .ok (.aload_n 0, 1) := by decide +kernel
theorem dX2_init_12 : decode cX2_init 12 = .ok (.iconst 0, 1) := by decide +kernel
theorem dX2_init_13 : decode cX2_init 13 = .ok (.newarray .int, 2) := by decide +kernel
theorem dX2_init_15 : decode cX2_init 15 = .ok (.putfield 13, 3) := by decide +kernel
theorem dX2_init_18 : decode cX2_init 18 = .ok (.aload_n 0, 1) := by decide +kernel
theorem dX2_init_19 : decode cX2_init 19 = .ok (.iconst 0, 1) := by decide +kernel
theorem dX2_init_20 : decode cX2_init 20 = .ok (.newarray .int, 2) := by decide +kernel
theorem dX2_init_22 : decode cX2_init 22 = .ok (.putfield 16, 3) := by decide +kernel
theorem dX2_init_25 : decode cX2_init 25 = .ok (.aload_n 0, 1) := by decide +kernel
theorem dX2_init_26 : decode cX2_init 26 = .ok (.iconst 0, 1) := by decide +kernel
theorem dX2_init_27 : decode cX2_init 27 = .ok (.newarray .int, 2) := by decide +kernel
theorem dX2_init_29 : decode cX2_init 29 = .ok (.putfield 19, 3) := by decide +kernel
theorem dX2_init_32 : decode cX2_init 32 = .ok (.aload_n 0, 1) := by decide +kernel
theorem dX2_init_33 : decode cX2_init 33 = .ok (.aload_n 1, 1) := by decide +kernel
theorem dX2_init_34 : decode cX2_init 34 = .ok (.putfield 22, 3) := by decide +kernel
theorem dX2_init_37 : decode cX2_init 37 = .ok (.return_, 1) := by decide +kernel
theorem dX2_firstSelector_0 : decode cX2_firstSelector 0 = .ok (.bipush 12, 2) := by decide +kernel
theorem dX2_firstSelector_2 : decode cX2_firstSelector 2 = .ok (.aload_n 0, 1) := by decide +kernel
theorem dX2_firstSelector_3 : decode cX2_firstSelector 3 = .ok (.getfield 26, 3) := by decide +kernel
theorem dX2_firstSelector_6 : decode cX2_firstSelector 6 = .ok (.imul, 1) := by decide +kernel
theorem dX2_firstSelector_7 : decode cX2_firstSelector 7 = .ok (.ireturn, 1) := by decide +kernel
set_option maxRecDepth 20000 in
theorem ggX2_draw_X0_threes : GoodIn wsX2_draw wsX0_threes := goodIn_r _ [12, 13, 14, 67, 68, 69, 70, 71, 72, 73, 74, 75, 76, 77] (by decide +kernel) (by decide +kernel)
set_option maxRecDepth 20000 in
theorem gX2_draw_X0_threes : GoodIn wsX2_draw (wsV RX2 35 RX0 yX0_threes wsX0_threes) := goodIn_app (goodIn_of _ (by decide +kernel)) ggX2_draw_X0_threes
set_option maxRecDepth 20000 in
theorem ggX2_draw_X7_roomFor : GoodIn wsX2_draw wsX7_roomFor := goodIn_r _ [17, 18, 19, 20, 21, 22] (by decide +kernel) (by decide +kernel)
set_option maxRecDepth 20000 in
theorem gX2_draw_X7_roomFor_n48 : GoodIn wsX2_draw (wsX7_roomFor) := ggX2_draw_X7_roomFor
set_option maxRecDepth 20000 in
theorem ggX2_draw_X7_yes : GoodIn wsX2_draw wsX7_yes := goodIn_r _ [24] (by decide +kernel) (by decide +kernel)
set_option maxRecDepth 20000 in
theorem gX2_draw_X7_yes_n54 : GoodIn wsX2_draw (wsX7_yes) := ggX2_draw_X7_yes
set_option maxRecDepth 20000 in
theorem ggX2_draw_X7_no : GoodIn wsX2_draw wsX7_no := goodIn_r _ [26] (by decide +kernel) (by decide +kernel)
set_option maxRecDepth 20000 in
theorem gX2_draw_X7_no_n58 : GoodIn wsX2_draw (wsX7_no) := ggX2_draw_X7_no
set_option maxRecDepth 20000 in
theorem ggX2_draw_X2_join : GoodIn wsX2_draw wsX2_join := goodIn_r _ [31, 7, 58, 59, 60, 61, 62, 63, 64, 65, 66] (by decide +kernel) (by decide +kernel)
set_option maxRecDepth 20000 in
theorem gX2_draw_X2_join : GoodIn wsX2_draw (wsV RX2 61 RX2 yX2_join wsX2_join) := goodIn_app (goodIn_of _ (by decide +kernel)) ggX2_draw_X2_join
set_option maxRecDepth 20000 in
theorem ggX2_draw_X2_drawThree : GoodIn wsX2_draw wsX2_drawThree := goodIn_r _ [35, 1, 27, 28, 29, 30, 31, 7, 36, 37, 38, 11, 39, 13, 40, 58, 59, 60, 61, 62, 63, 64, 65, 66, 67, 68, 69, 70, 71, 72, 73, 74, 75, 76, 77] (by decide +kernel) (by decide +kernel)
set_option maxRecDepth 20000 in
theorem gX2_draw_X2_drawThree : GoodIn wsX2_draw (wsV RX2 65 RX2 yX2_drawThree wsX2_drawThree) := goodIn_app (goodIn_of _ (by decide +kernel)) ggX2_draw_X2_drawThree
set_option maxRecDepth 20000 in
theorem ggX2_draw_X2_sortSides : GoodIn wsX2_draw wsX2_sortSides := goodIn_r _ [44, 4, 45, 46, 47, 3, 7, 15, 16, 17, 18, 19, 20, 21, 22, 48, 49, 50, 51, 52, 53, 54, 55, 56, 57, 58, 59, 60, 61, 62, 63, 64, 65, 66, 78, 79, 80, 81] (by decide +kernel) (by decide +kernel)
set_option maxRecDepth 20000 in
theorem gX2_draw_X2_sortSides : GoodIn wsX2_draw (wsV RX2 68 RX2 yX2_sortSides wsX2_sortSides) := goodIn_app (goodIn_of _ (by decide +kernel)) ggX2_draw_X2_sortSides
theorem dX2_draw_0 : decode cX2_draw 0 = .ok (.aload_n 0, 1) := by decide +kernel
theorem dX2_draw_1 : decode cX2_draw 1 = .ok (.getfield 22, 3) := by decide +kernel
theorem dX2_draw_4 : decode cX2_draw 4 = .ok (.getfield 30, 3) := by decide +kernel
theorem dX2_draw_7 : decode cX2_draw 7 = .ok (.istore_n 1, 1) := by decide +kernel
theorem dX2_draw_8 : decode cX2_draw 8 = .ok (.aload_n 0, 1) := by decide +kernel
theorem dX2_draw_9 : decode cX2_draw 9 = .ok (.getfield 22, 3) := by decide +kernel
theorem dX2_draw_12 : decode cX2_draw 12 = .ok (.invokevirtual 35, 3) := by decide +kernel
theorem dX2_draw_15 : decode cX2_draw 15 = .ok (.istore_n 2, 1) := by decide +kernel
theorem dX2_draw_16 : decode cX2_draw 16 = .ok (.aload_n 0, 1) := by decide +kernel
theorem dX2_draw_17 : decode cX2_draw 17 = .ok (.iconst 2, 1) := by decide +kernel
theorem dX2_draw_18 : decode cX2_draw 18 = .ok (.iload_n 1, 1) := by decide +kernel
theorem dX2_draw_19 : decode cX2_draw 19 = .ok (.imul, 1) := by decide +kernel
theorem dX2_draw_20 : decode cX2_draw 20 = .ok (.iconst 3, 1) := by decide +kernel
theorem dX2_draw_21 : decode cX2_draw 21 = .ok (.iload_n 2, 1) := by decide +kernel
theorem dX2_draw_22 : decode cX2_draw 22 = .ok (.imul, 1) := by decide +kernel
theorem dX2_draw_23 : decode cX2_draw 23 = .ok (.iadd, 1) := by decide +kernel
theorem dX2_draw_24 : decode cX2_draw 24 = .ok (.putfield 39, 3) := by decide +kernel
theorem dX2_draw_27 : decode cX2_draw 27 = .ok (.aload_n 0, 1) := by decide +kernel
theorem dX2_draw_28 : decode cX2_draw 28 = .ok (.iload_n 1, 1) := by decide +kernel
theorem dX2_draw_29 : decode cX2_draw 29 = .ok (.bipush 6, 2) := by decide +kernel
theorem dX2_draw_31 : decode cX2_draw 31 = .ok (.iload_n 2, 1) := by decide +kernel
theorem dX2_draw_32 : decode cX2_draw 32 = .ok (.imul, 1) := by decide +kernel
theorem dX2_draw_33 : decode cX2_draw 33 = .ok (.iadd, 1) := by decide +kernel
theorem dX2_draw_34 : decode cX2_draw 34 = .ok (.putfield 26, 3) := by decide +kernel
theorem dX2_draw_37 : decode cX2_draw 37 = .ok (.aload_n 0, 1) := by decide +kernel
theorem dX2_draw_38 : decode cX2_draw 38 = .ok (.iload_n 1, 1) := by decide +kernel
theorem dX2_draw_39 : decode cX2_draw 39 = .ok (.iconst 2, 1) := by decide +kernel
theorem dX2_draw_40 : decode cX2_draw 40 = .ok (.iload_n 2, 1) := by decide +kernel
theorem dX2_draw_41 : decode cX2_draw 41 = .ok (.imul, 1) := by decide +kernel
theorem dX2_draw_42 : decode cX2_draw 42 = .ok (.iadd, 1) := by decide +kernel
theorem dX2_draw_43 : decode cX2_draw 43 = .ok (.putfield 42, 3) := by decide +kernel
theorem dX2_draw_46 : decode cX2_draw 46 = .ok (.aload_n 0, 1) := by decide +kernel
theorem dX2_draw_47 : decode cX2_draw 47 = .ok (.bipush 12, 2) := by decide +kernel
theorem dX2_draw_49 : decode cX2_draw 49 = .ok (.aload_n 0, 1) := by decide +kernel
theorem dX2_draw_50 : decode cX2_draw 50 = .ok (.getfield 26, 3) := by decide +kernel
theorem dX2_draw_53 : decode cX2_draw 53 = .ok (.imul, 1) := by decide +kernel
theorem dX2_draw_54 : decode cX2_draw 54 = .ok (.aload_n 0, 1) := by decide +kernel
theorem dX2_draw_55 : decode cX2_draw 55 = .ok (.getfield 42, 3) := by decide +kernel
theorem dX2_draw_58 : decode cX2_draw 58 = .ok (.iadd, 1) := by decide +kernel
theorem dX2_draw_59 : decode cX2_draw 59 = .ok (.putfield 45, 3) := by decide +kernel
theorem dX2_draw_62 : decode cX2_draw 62 = .ok (.aload_n 0, 1) := by decide +kernel
theorem dX2_draw_63 : decode cX2_draw 63 = .ok (.aload_n 0, 1) := by decide +kernel
theorem dX2_draw_64 : decode cX2_draw 64 = .ok (.getfield 7, 3) := by decide +kernel
theorem dX2_draw_67 : decode cX2_draw 67 = .ok (.iconst 2, 1) := by decide +kernel
theorem dX2_draw_68 : decode cX2_draw 68 = .ok (.aload_n 0, 1) := by decide +kernel
theorem dX2_draw_69 : decode cX2_draw 69 = .ok (.getfield 26, 3) := by decide +kernel
theorem dX2_draw_72 : decode cX2_draw 72 = .ok (.imul, 1) := by decide +kernel
theorem dX2_draw_73 : decode cX2_draw 73 = .ok (.invokestatic 48, 3) := by decide +kernel
theorem dX2_draw_76 : decode cX2_draw 76 = .ok (.putfield 7, 3) := by decide +kernel
theorem dX2_draw_79 : decode cX2_draw 79 = .ok (.iconst 0, 1) := by decide +kernel
theorem dX2_draw_80 : decode cX2_draw 80 = .ok (.istore_n 3, 1) := by decide +kernel
theorem dX2_draw_81 : decode cX2_draw 81 = .ok (.iload_n 3, 1) := by decide +kernel
theorem dX2_draw_82 : decode cX2_draw 82 = .ok (.iload_n 1, 1) := by decide +kernel
theorem dX2_draw_83 : decode cX2_draw 83 = .ok (.if_icmp .ge 22, 3) := by decide +kernel
theorem dX2_draw_86 : decode cX2_draw 86 = .ok (.aload_n 0, 1) := by decide +kernel
theorem dX2_draw_87 : decode cX2_draw 87 = .ok (.iload_n 3, 1) := by decide +kernel
theorem dX2_draw_88 : decode cX2_draw 88 = .ok (.iload_n 3, 1) := by decide +kernel
theorem dX2_draw_89 : decode cX2_draw 89 = .ok (.invokestatic 54, 3) := by decide +kernel
theorem dX2_draw_92 : decode cX2_draw 92 = .ok (.iload_n 3, 1) := by decide +kernel
theorem dX2_draw_93 : decode cX2_draw 93 = .ok (.invokestatic 58, 3) := by decide +kernel
theorem dX2_draw_96 : decode cX2_draw 96 = .ok (.invokevirtual 61, 3) := by decide +kernel
theorem dX2_draw_99 : decode cX2_draw 99 = .ok (.iinc 3 1, 3) := by decide +kernel
theorem dX2_draw_102 : decode cX2_draw 102 = .ok (.goto (-21), 3) := by decide +kernel
theorem dX2_draw_105 : decode cX2_draw 105 = .ok (.iconst 0, 1) := by decide +kernel
theorem dX2_draw_106 : decode cX2_draw 106 = .ok (.istore_n 3, 1) := by decide +kernel
theorem dX2_draw_107 : decode cX2_draw 107 = .ok (.iload_n 3, 1) := by decide +kernel
theorem dX2_draw_108 : decode cX2_draw 108 = .ok (.iload_n 2, 1) := by decide +kernel
theorem dX2_draw_109 : decode cX2_draw 109 = .ok (.if_icmp .ge 27, 3) := by decide +kernel
theorem dX2_draw_112 : decode cX2_draw 112 = .ok (.aload_n 0, 1) := by decide +kernel
theorem dX2_draw_113 : decode cX2_draw 113 = .ok (.iload_n 3, 1) := by decide +kernel
theorem dX2_draw_114 : decode cX2_draw 114 = .ok (.iload_n 1, 1) := by decide +kernel
theorem dX2_draw_115 : decode cX2_draw 115 = .ok (.bipush 6, 2) := by decide +kernel
theorem dX2_draw_117 : decode cX2_draw 117 = .ok (.iload_n 3, 1) := by decide +kernel
theorem dX2_draw_118 : decode cX2_draw 118 = .ok (.imul, 1) := by decide +kernel
theorem dX2_draw_119 : decode cX2_draw 119 = .ok (.iadd, 1) := by decide +kernel
theorem dX2_draw_120 : decode cX2_draw 120 = .ok (.iconst 2, 1) := by decide +kernel
theorem dX2_draw_121 : decode cX2_draw 121 = .ok (.iload_n 1, 1) := by decide +kernel
theorem dX2_draw_122 : decode cX2_draw 122 = .ok (.imul, 1) := by decide +kernel
theorem dX2_draw_123 : decode cX2_draw 123 = .ok (.iconst 3, 1) := by decide +kernel
theorem dX2_draw_124 : decode cX2_draw 124 = .ok (.iload_n 3, 1) := by decide +kernel
theorem dX2_draw_125 : decode cX2_draw 125 = .ok (.imul, 1) := by decide +kernel
theorem dX2_draw_126 : decode cX2_draw 126 = .ok (.iadd, 1) := by decide +kernel
theorem dX2_draw_127 : decode cX2_draw 127 = .ok (.invokevirtual 65, 3) := by decide +kernel
theorem dX2_draw_130 : decode cX2_draw 130 = .ok (.iinc 3 1, 3) := by decide +kernel
theorem dX2_draw_133 : decode cX2_draw 133 = .ok (.goto (-26), 3) := by decide +kernel
theorem dX2_draw_136 : decode cX2_draw 136 = .ok (.aload_n 0, 1) := by decide +kernel
theorem dX2_draw_137 : decode cX2_draw 137 = .ok (.invokevirtual 68, 3) := by decide +kernel
theorem dX2_draw_140 : decode cX2_draw 140 = .ok (.return_, 1) := by decide +kernel
set_option maxRecDepth 20000 in
theorem ggX2_drawThree_X2_join : GoodIn wsX2_drawThree wsX2_join := goodIn_r _ [6, 7, 15, 16, 17, 18, 19, 20, 21, 22, 23] (by decide +kernel) (by decide +kernel)
set_option maxRecDepth 20000 in
theorem gX2_drawThree_X2_join : GoodIn wsX2_drawThree (wsV RX2 61 RX2 yX2_join wsX2_join) := goodIn_app (goodIn_of _ (by decide +kernel)) ggX2_drawThree_X2_join
set_option maxRecDepth 20000 in
theorem ggX2_drawThree_X0_literalOfThree : GoodIn wsX2_drawThree wsX0_literalOfThree := goodIn_r _ [12, 13, 14, 24, 25, 26, 27, 28, 29, 30, 31, 32, 33, 34] (by decide +kernel) (by decide +kernel)
set_option maxRecDepth 20000 in
theorem gX2_drawThree_X0_literalOfThree : GoodIn wsX2_drawThree (wsV RX2 71 RX0 yX0_literalOfThree wsX0_literalOfThree) := goodIn_app (goodIn_of _ (by decide +kernel)) ggX2_drawThree_X0_literalOfThree
theorem dX2_drawThree_0 : decode cX2_drawThree 0 = .ok (.aload_n 0, 1) := by decide +kernel
theorem dX2_drawThree_1 : decode cX2_drawThree 1 = .ok (.iload_n 2, 1) := by decide +kernel
theorem dX2_drawThree_2 : decode cX2_drawThree 2 = .ok (.iload_n 3, 1) := by decide +kernel
theorem dX2_drawThree_3 : decode cX2_drawThree 3 = .ok (.iload_n 3, 1) := by decide +kernel
theorem dX2_drawThree_4 : decode cX2_drawThree 4 = .ok (.iconst 1, 1) := by decide +kernel
theorem dX2_drawThree_5 : decode cX2_drawThree 5 = .ok (.iadd, 1) := by decide +kernel
theorem dX2_drawThree_6 : decode cX2_drawThree 6 = .ok (.invokevirtual 61, 3) := by decide +kernel
theorem dX2_drawThree_9 : decode cX2_drawThree 9 = .ok (.aload_n 0, 1) := by decide +kernel
theorem dX2_drawThree_10 : decode cX2_drawThree 10 = .ok (.iload_n 2, 1) := by decide +kernel
theorem dX2_drawThree_11 : decode cX2_drawThree 11 = .ok (.iconst 1, 1) := by decide +kernel
theorem dX2_drawThree_12 : decode cX2_drawThree 12 = .ok (.iadd, 1) := by decide +kernel
theorem dX2_drawThree_13 : decode cX2_drawThree 13 = .ok (.iload_n 3, 1) := by decide +kernel
theorem dX2_drawThree_14 : decode cX2_drawThree 14 = .ok (.iconst 1, 1) := by decide +kernel
theorem dX2_drawThree_15 : decode cX2_drawThree 15 = .ok (.iadd, 1) := by decide +kernel
theorem dX2_drawThree_16 : decode cX2_drawThree 16 = .ok (.iload_n 3, 1) := by decide +kernel
theorem dX2_drawThree_17 : decode cX2_drawThree 17 = .ok (.iconst 2, 1) := by decide +kernel
theorem dX2_drawThree_18 : decode cX2_drawThree 18 = .ok (.iadd, 1) := by decide +kernel
theorem dX2_drawThree_19 : decode cX2_drawThree 19 = .ok (.invokevirtual 61, 3) := by decide +kernel
theorem dX2_drawThree_22 : decode cX2_drawThree 22 = .ok (.aload_n 0, 1) := by decide +kernel
theorem dX2_drawThree_23 : decode cX2_drawThree 23 = .ok (.iload_n 2, 1) := by decide +kernel
theorem dX2_drawThree_24 : decode cX2_drawThree 24 = .ok (.iconst 2, 1) := by decide +kernel
theorem dX2_drawThree_25 : decode cX2_drawThree 25 = .ok (.iadd, 1) := by decide +kernel
theorem dX2_drawThree_26 : decode cX2_drawThree 26 = .ok (.iload_n 3, 1) := by decide +kernel
theorem dX2_drawThree_27 : decode cX2_drawThree 27 = .ok (.iload_n 3, 1) := by decide +kernel
theorem dX2_drawThree_28 : decode cX2_drawThree 28 = .ok (.iconst 2, 1) := by decide +kernel
theorem dX2_drawThree_29 : decode cX2_drawThree 29 = .ok (.iadd, 1) := by decide +kernel
theorem dX2_drawThree_30 : decode cX2_drawThree 30 = .ok (.invokevirtual 61, 3) := by decide +kernel
theorem dX2_drawThree_33 : decode cX2_drawThree 33 = .ok (.iconst 0, 1) := by decide +kernel
theorem dX2_drawThree_34 : decode cX2_drawThree 34 = .ok (.istore 4, 2) := by decide +kernel
theorem dX2_drawThree_36 : decode cX2_drawThree 36 = .ok (.iload 4, 2) := by decide +kernel
theorem dX2_drawThree_38 : decode cX2_drawThree 38 = .ok (.iconst 3, 1) := by decide +kernel
theorem dX2_drawThree_39 : decode cX2_drawThree 39 = .ok (.if_icmp .ge 33, 3) := by decide +kernel
theorem dX2_drawThree_42 : decode cX2_drawThree 42 = .ok (.aload_n 0, 1) := by decide +kernel
theorem dX2_drawThree_43 : decode cX2_drawThree 43 = .ok (.iload_n 2, 1) := by decide +kernel
theorem dX2_drawThree_44 : decode cX2_drawThree 44 = .ok (.iconst 3, 1) := by decide +kernel
theorem dX2_drawThree_45 : decode cX2_drawThree 45 = .ok (.iadd, 1) := by decide +kernel
theorem dX2_drawThree_46 : decode cX2_drawThree 46 = .ok (.iload 4, 2) := by decide +kernel
theorem dX2_drawThree_48 : decode cX2_drawThree 48 = .ok (.iadd, 1) := by decide +kernel
theorem dX2_drawThree_49 : decode cX2_drawThree 49 = .ok (.iload_n 3, 1) := by decide +kernel
theorem dX2_drawThree_50 : decode cX2_drawThree 50 = .ok (.iload 4, 2) := by decide +kernel
theorem dX2_drawThree_52 : decode cX2_drawThree 52 = .ok (.iadd, 1) := by decide +kernel
theorem dX2_drawThree_53 : decode cX2_drawThree 53 = .ok (.aload_n 0, 1) := by decide +kernel
theorem dX2_drawThree_54 : decode cX2_drawThree 54 = .ok (.getfield 22, 3) := by decide +kernel
theorem dX2_drawThree_57 : decode cX2_drawThree 57 = .ok (.iload_n 1, 1) := by decide +kernel
theorem dX2_drawThree_58 : decode cX2_drawThree 58 = .ok (.iload 4, 2) := by decide +kernel
theorem dX2_drawThree_60 : decode cX2_drawThree 60 = .ok (.invokevirtual 71, 3) := by decide +kernel
theorem dX2_drawThree_63 : decode cX2_drawThree 63 = .ok (.invokevirtual 61, 3) := by decide +kernel
theorem dX2_drawThree_66 : decode cX2_drawThree 66 = .ok (.iinc 4 1, 3) := by decide +kernel
theorem dX2_drawThree_69 : decode cX2_drawThree 69 = .ok (.goto (-33), 3) := by decide +kernel
theorem dX2_drawThree_72 : decode cX2_drawThree 72 = .ok (.return_, 1) := by decide +kernel
theorem dX2_join_0 : decode cX2_join 0 = .ok (.aload_n 0, 1) := by decide +kernel
theorem dX2_join_1 : decode cX2_join 1 = .ok (.getfield 7, 3) := by decide +kernel
theorem dX2_join_4 : decode cX2_join 4 = .ok (.iconst 2, 1) := by decide +kernel
theorem dX2_join_5 : decode cX2_join 5 = .ok (.iload_n 1, 1) := by decide +kernel
theorem dX2_join_6 : decode cX2_join 6 = .ok (.imul, 1) := by decide +kernel
theorem dX2_join_7 : decode cX2_join 7 = .ok (.iload_n 2, 1) := by decide +kernel
theorem dX2_join_8 : decode cX2_join 8 = .ok (.iastore, 1) := by decide +kernel
theorem dX2_join_9 : decode cX2_join 9 = .ok (.aload_n 0, 1) := by decide +kernel
theorem dX2_join_10 : decode cX2_join 10 = .ok (.getfield 7, 3) := by decide +kernel
theorem dX2_join_13 : decode cX2_join 13 = .ok (.iconst 2, 1) := by decide +kernel
theorem dX2_join_14 : decode cX2_join 14 = .ok (.iload_n 1, 1) := by decide +kernel
theorem dX2_join_15 : decode cX2_join 15 = .ok (.imul, 1) := by decide +kernel
theorem dX2_join_16 : decode cX2_join 16 = .ok (.iconst 1, 1) := by decide +kernel
theorem dX2_join_17 : decode cX2_join 17 = .ok (.iadd, 1) := by decide +kernel
theorem dX2_join_18 : decode cX2_join 18 = .ok (.iload_n 3, 1) := by decide +kernel
theorem dX2_join_19 : decode cX2_join 19 = .ok (.iastore, 1) := by decide +kernel
theorem dX2_join_20 : decode cX2_join 20 = .ok (.return_, 1) := by decide +kernel
set_option maxRecDepth 20000 in
theorem ggX2_sortSides_X7_roomFor : GoodIn wsX2_sortSides wsX7_roomFor := goodIn_r _ [9, 10, 11, 12, 13, 14] (by decide +kernel) (by decide +kernel)
set_option maxRecDepth 20000 in
theorem gX2_sortSides_X7_roomFor_n48 : GoodIn wsX2_sortSides (wsX7_roomFor) := ggX2_sortSides_X7_roomFor
set_option maxRecDepth 20000 in
theorem ggX2_sortSides_J7_fill_fda19 : GoodIn wsX2_sortSides wsJ7_fill_fda19 := goodIn_r _ [18, 19, 20, 17, 21, 22, 23, 24, 34, 35, 36, 37] (by decide +kernel) (by decide +kernel)
set_option maxRecDepth 20000 in
theorem gX2_sortSides_J7_fill_fda19 : GoodIn wsX2_sortSides (va_wsS RX2 75 yJ7_fill_fda19 wsJ7_fill_fda19) := goodIn_app (goodIn_of _ (by decide +kernel)) ggX2_sortSides_J7_fill_fda19
theorem dX2_sortSides_0 : decode cX2_sortSides 0 = .ok (.iconst 2, 1) := by decide +kernel
theorem dX2_sortSides_1 : decode cX2_sortSides 1 = .ok (.aload_n 0, 1) := by decide +kernel
theorem dX2_sortSides_2 : decode cX2_sortSides 2 = .ok (.getfield 26, 3) := by decide +kernel
theorem dX2_sortSides_5 : decode cX2_sortSides 5 = .ok (.imul, 1) := by decide +kernel
theorem dX2_sortSides_6 : decode cX2_sortSides 6 = .ok (.istore_n 1, 1) := by decide +kernel
theorem dX2_sortSides_7 : decode cX2_sortSides 7 = .ok (.aload_n 0, 1) := by decide +kernel
theorem dX2_sortSides_8 : decode cX2_sortSides 8 = .ok (.aload_n 0, 1) := by decide +kernel
theorem dX2_sortSides_9 : decode cX2_sortSides 9 = .ok (.getfield 13, 3) := by decide +kernel
theorem dX2_sortSides_12 : decode cX2_sortSides 12 = .ok (.iload_n 1, 1) := by decide +kernel
theorem dX2_sortSides_13 : decode cX2_sortSides 13 = .ok (.invokestatic 48, 3) := by decide +kernel
theorem dX2_sortSides_16 : decode cX2_sortSides 16 = .ok (.putfield 13, 3) := by decide +kernel
theorem dX2_sortSides_19 : decode cX2_sortSides 19 = .ok (.aload_n 0, 1) := by decide +kernel
theorem dX2_sortSides_20 : decode cX2_sortSides 20 = .ok (.aload_n 0, 1) := by decide +kernel
theorem dX2_sortSides_21 : decode cX2_sortSides 21 = .ok (.getfield 16, 3) := by decide +kernel
theorem dX2_sortSides_24 : decode cX2_sortSides 24 = .ok (.iload_n 1, 1) := by decide +kernel
theorem dX2_sortSides_25 : decode cX2_sortSides 25 = .ok (.invokestatic 48, 3) := by decide +kernel
theorem dX2_sortSides_28 : decode cX2_sortSides 28 = .ok (.putfield 16, 3) := by decide +kernel
theorem dX2_sortSides_31 : decode cX2_sortSides 31 = .ok (.aload_n 0, 1) := by decide +kernel
theorem dX2_sortSides_32 : decode cX2_sortSides 32 = .ok (.aload_n 0, 1) := by decide +kernel
theorem dX2_sortSides_33 : decode cX2_sortSides 33 = .ok (.getfield 19, 3) := by decide +kernel
theorem dX2_sortSides_36 : decode cX2_sortSides 36 = .ok (.aload_n 0, 1) := by decide +kernel
theorem dX2_sortSides_37 : decode cX2_sortSides 37 = .ok (.getfield 39, 3) := by decide +kernel
theorem dX2_sortSides_40 : decode cX2_sortSides 40 = .ok (.iconst 1, 1) := by decide +kernel
theorem dX2_sortSides_41 : decode cX2_sortSides 41 = .ok (.iadd, 1) := by decide +kernel
theorem dX2_sortSides_42 : decode cX2_sortSides 42 = .ok (.invokestatic 48, 3) := by decide +kernel
theorem dX2_sortSides_45 : decode cX2_sortSides 45 = .ok (.putfield 19, 3) := by decide +kernel
theorem dX2_sortSides_48 : decode cX2_sortSides 48 = .ok (.aload_n 0, 1) := by decide +kernel
theorem dX2_sortSides_49 : decode cX2_sortSides 49 = .ok (.getfield 19, 3) := by decide +kernel
theorem dX2_sortSides_52 : decode cX2_sortSides 52 = .ok (.iconst 0, 1) := by decide +kernel
theorem dX2_sortSides_53 : decode cX2_sortSides 53 = .ok (.aload_n 0, 1) := by decide +kernel
theorem dX2_sortSides_54 : decode cX2_sortSides 54 = .ok (.getfield 39, 3) := by decide +kernel
theorem dX2_sortSides_57 : decode cX2_sortSides 57 = .ok (.iconst 1, 1) := by decide +kernel
theorem dX2_sortSides_58 : decode cX2_sortSides 58 = .ok (.iadd, 1) := by decide +kernel
theorem dX2_sortSides_59 : decode cX2_sortSides 59 = .ok (.iconst 0, 1) := by decide +kernel
theorem dX2_sortSides_60 : decode cX2_sortSides 60 = .ok (.invokestatic 75, 3) := by decide +kernel
theorem dX2_sortSides_63 : decode cX2_sortSides 63 = .ok (.iconst 0, 1) := by decide +kernel
theorem dX2_sortSides_64 : decode cX2_sortSides 64 = .ok (.istore_n 2, 1) := by decide +kernel
theorem dX2_sortSides_65 : decode cX2_sortSides 65 = .ok (.iload_n 2, 1) := by decide +kernel
theorem dX2_sortSides_66 : decode cX2_sortSides 66 = .ok (.iload_n 1, 1) := by decide +kernel
theorem dX2_sortSides_67 : decode cX2_sortSides 67 = .ok (.if_icmp .ge 24, 3) := by decide +kernel
theorem dX2_sortSides_70 : decode cX2_sortSides 70 = .ok (.aload_n 0, 1) := by decide +kernel
theorem dX2_sortSides_71 : decode cX2_sortSides 71 = .ok (.getfield 19, 3) := by decide +kernel
theorem dX2_sortSides_74 : decode cX2_sortSides 74 = .ok (.aload_n 0, 1) := by decide +kernel
theorem dX2_sortSides_75 : decode cX2_sortSides 75 = .ok (.getfield 7, 3) := by decide +kernel
theorem dX2_sortSides_78 : decode cX2_sortSides 78 = .ok (.iload_n 2, 1) := by decide +kernel
theorem dX2_sortSides_79 : decode cX2_sortSides 79 = .ok (.iaload, 1) := by decide +kernel
theorem dX2_sortSides_80 : decode cX2_sortSides 80 = .ok (.dup2, 1) := by decide +kernel
theorem dX2_sortSides_81 : decode cX2_sortSides 81 = .ok (.iaload, 1) := by decide +kernel
theorem dX2_sortSides_82 : decode cX2_sortSides 82 = .ok (.iconst 1, 1) := by decide +kernel
theorem dX2_sortSides_83 : decode cX2_sortSides 83 = .ok (.iadd, 1) := by decide +kernel
theorem dX2_sortSides_84 : decode cX2_sortSides 84 = .ok (.iastore, 1) := by decide +kernel
theorem dX2_sortSides_85 : decode cX2_sortSides 85 = .ok (.iinc 2 1, 3) := by decide +kernel
theorem dX2_sortSides_88 : decode cX2_sortSides 88 = .ok (.goto (-23), 3) := by decide +kernel
theorem dX2_sortSides_91 : decode cX2_sortSides 91 = .ok (.iconst 1, 1) := by decide +kernel
theorem dX2_sortSides_92 : decode cX2_sortSides 92 = .ok (.istore_n 2, 1) := by decide +kernel
theorem dX2_sortSides_93 : decode cX2_sortSides 93 = .ok (.iload_n 2, 1) := by decide +kernel
theorem dX2_sortSides_94 : decode cX2_sortSides 94 = .ok (.aload_n 0, 1) := by decide +kernel
theorem dX2_sortSides_95 : decode cX2_sortSides 95 = .ok (.getfield 39, 3) := by decide +kernel
theorem dX2_sortSides_98 : decode cX2_sortSides 98 = .ok (.if_icmp .gt 26, 3) := by decide +kernel
theorem dX2_sortSides_101 : decode cX2_sortSides 101 = .ok (.aload_n 0, 1) := by decide +kernel
theorem dX2_sortSides_102 : decode cX2_sortSides 102 = .ok (.getfield 19, 3) := by decide +kernel
theorem dX2_sortSides_105 : decode cX2_sortSides 105 = .ok (.iload_n 2, 1) := by decide +kernel
theorem dX2_sortSides_106 : decode cX2_sortSides 106 = .ok (.dup2, 1) := by decide +kernel
theorem dX2_sortSides_107 : decode cX2_sortSides 107 = .ok (.iaload, 1) := by decide +kernel
theorem dX2_sortSides_108 : decode cX2_sortSides 108 = .ok (.aload_n 0, 1) := by decide +kernel
theorem dX2_sortSides_109 : decode cX2_sortSides 109 = .ok (.getfield 19, 3) := by decide +kernel
theorem dX2_sortSides_112 : decode cX2_sortSides 112 = .ok (.iload_n 2, 1) := by decide +kernel
theorem dX2_sortSides_113 : decode cX2_sortSides 113 = .ok (.iconst 1, 1) := by decide +kernel
theorem dX2_sortSides_114 : decode cX2_sortSides 114 = .ok (.isub, 1) := by decide +kernel
theorem dX2_sortSides_115 : decode cX2_sortSides 115 = .ok (.iaload, 1) := by decide +kernel
theorem dX2_sortSides_116 : decode cX2_sortSides 116 = .ok (.iadd, 1) := by decide +kernel
theorem dX2_sortSides_117 : decode cX2_sortSides 117 = .ok (.iastore, 1) := by decide +kernel
theorem dX2_sortSides_118 : decode cX2_sortSides 118 = .ok (.iinc 2 1, 3) := by decide +kernel
theorem dX2_sortSides_121 : decode cX2_sortSides 121 = .ok (.goto (-28), 3) := by decide +kernel
theorem dX2_sortSides_124 : decode cX2_sortSides 124 = .ok (.iload_n 1, 1) := by decide +kernel
theorem dX2_sortSides_125 : decode cX2_sortSides 125 = .ok (.iconst 1, 1) := by decide +kernel
theorem dX2_sortSides_126 : decode cX2_sortSides 126 = .ok (.isub, 1) := by decide +kernel
theorem dX2_sortSides_127 : decode cX2_sortSides 127 = .ok (.istore_n 2, 1) := by decide +kernel
theorem dX2_sortSides_128 : decode cX2_sortSides 128 = .ok (.iload_n 2, 1) := by decide +kernel
theorem dX2_sortSides_129 : decode cX2_sortSides 129 = .ok (.ifCond .lt 50, 3) := by decide +kernel
theorem dX2_sortSides_132 : decode cX2_sortSides 132 = .ok (.aload_n 0, 1) := by decide +kernel
theorem dX2_sortSides_133 : decode cX2_sortSides 133 = .ok (.getfield 7, 3) := by decide +kernel
theorem dX2_sortSides_136 : decode cX2_sortSides 136 = .ok (.iload_n 2, 1) := by decide +kernel
theorem dX2_sortSides_137 : decode cX2_sortSides 137 = .ok (.iaload, 1) := by decide +kernel
theorem dX2_sortSides_138 : decode cX2_sortSides 138 = .ok (.istore_n 3, 1) := by decide +kernel
theorem dX2_sortSides_139 : decode cX2_sortSides 139 = .ok (.aload_n 0, 1) := by decide +kernel
theorem dX2_sortSides_140 : decode cX2_sortSides 140 = .ok (.getfield 19, 3) := by decide +kernel
theorem dX2_sortSides_143 : decode cX2_sortSides 143 = .ok (.iload_n 3, 1) := by decide +kernel
theorem dX2_sortSides_144 : decode cX2_sortSides 144 = .ok (.dup2, 1) := by decide +kernel
theorem dX2_sortSides_145 : decode cX2_sortSides 145 = .ok (.iaload, 1) := by decide +kernel
theorem dX2_sortSides_146 : decode cX2_sortSides 146 = .ok (.iconst 1, 1) := by decide +kernel
theorem dX2_sortSides_147 : decode cX2_sortSides 147 = .ok (.isub, 1) := by decide +kernel
theorem dX2_sortSides_148 : decode cX2_sortSides 148 = .ok (.iastore, 1) := by decide +kernel
theorem dX2_sortSides_149 : decode cX2_sortSides 149 = .ok (.aload_n 0, 1) := by decide +kernel
theorem dX2_sortSides_150 : decode cX2_sortSides 150 = .ok (.getfield 16, 3) := by decide +kernel
theorem dX2_sortSides_153 : decode cX2_sortSides 153 = .ok (.iload_n 2, 1) := by decide +kernel
theorem dX2_sortSides_154 : decode cX2_sortSides 154 = .ok (.aload_n 0, 1) := by decide +kernel
theorem dX2_sortSides_155 : decode cX2_sortSides 155 = .ok (.getfield 19, 3) := by decide +kernel
theorem dX2_sortSides_158 : decode cX2_sortSides 158 = .ok (.iload_n 3, 1) := by decide +kernel
theorem dX2_sortSides_159 : decode cX2_sortSides 159 = .ok (.iaload, 1) := by decide +kernel
theorem dX2_sortSides_160 : decode cX2_sortSides 160 = .ok (.iastore, 1) := by decide +kernel
theorem dX2_sortSides_161 : decode cX2_sortSides 161 = .ok (.aload_n 0, 1) := by decide +kernel
theorem dX2_sortSides_162 : decode cX2_sortSides 162 = .ok (.getfield 13, 3) := by decide +kernel
theorem dX2_sortSides_165 : decode cX2_sortSides 165 = .ok (.aload_n 0, 1) := by decide +kernel
theorem dX2_sortSides_166 : decode cX2_sortSides 166 = .ok (.getfield 19, 3) := by decide +kernel
theorem dX2_sortSides_169 : decode cX2_sortSides 169 = .ok (.iload_n 3, 1) := by decide +kernel
theorem dX2_sortSides_170 : decode cX2_sortSides 170 = .ok (.iaload, 1) := by decide +kernel
theorem dX2_sortSides_171 : decode cX2_sortSides 171 = .ok (.iload_n 2, 1) := by decide +kernel
theorem dX2_sortSides_172 : decode cX2_sortSides 172 = .ok (.iastore, 1) := by decide +kernel
theorem dX2_sortSides_173 : decode cX2_sortSides 173 = .ok (.iinc 2 (-1), 3) := by decide +kernel
theorem dX2_sortSides_176 : decode cX2_sortSides 176 = .ok (.goto (-48), 3) := by decide +kernel
theorem dX2_sortSides_179 : decode cX2_sortSides 179 = .ok (.return_, 1) := by decide +kernel
set_option maxRecDepth 20000 in
theorem ggX2_distance_X2_leadsTo : GoodIn wsX2_distance wsX2_leadsTo := goodIn_r _ [5, 6, 7, 8, 9, 10, 4, 11, 12, 13, 14, 15, 16, 17, 18, 19, 20, 21, 22, 23, 24, 25, 26] (by decide +kernel) (by decide +kernel)
set_option maxRecDepth 20000 in
theorem gX2_distance_X2_leadsTo : GoodIn wsX2_distance (wsV RX2 81 RX2 yX2_leadsTo wsX2_leadsTo) := goodIn_app (goodIn_of _ (by decide +kernel)) ggX2_distance_X2_leadsTo
theorem dX2_distance_0 : decode cX2_distance 0 = .ok (.iload_n 1, 1) := by decide +kernel
theorem dX2_distance_1 : decode cX2_distance 1 = .ok (.iload_n 2, 1) := by decide +kernel
theorem dX2_distance_2 : decode cX2_distance 2 = .ok (.if_icmp .ne 5, 3) := by decide +kernel
theorem dX2_distance_5 : decode cX2_distance 5 = .ok (.iconst 0, 1) := by decide +kernel
theorem dX2_distance_6 : decode cX2_distance 6 = .ok (.ireturn, 1) := by decide +kernel
theorem dX2_distance_7 : decode cX2_distance 7 = .ok (.aload_n 0, 1) := by decide +kernel
theorem dX2_distance_8 : decode cX2_distance 8 = .ok (.iload_n 1, 1) := by decide +kernel
theorem dX2_distance_9 : decode cX2_distance 9 = .ok (.iload_n 2, 1) := by decide +kernel
theorem dX2_distance_10 : decode cX2_distance 10 = .ok (.invokevirtual 81, 3) := by decide +kernel
theorem dX2_distance_13 : decode cX2_distance 13 = .ok (.ifCond .ne 12, 3) := by decide +kernel
theorem dX2_distance_16 : decode cX2_distance 16 = .ok (.aload_n 0, 1) := by decide +kernel
theorem dX2_distance_17 : decode cX2_distance 17 = .ok (.iload_n 2, 1) := by decide +kernel
theorem dX2_distance_18 : decode cX2_distance 18 = .ok (.iload_n 1, 1) := by decide +kernel
theorem dX2_distance_19 : decode cX2_distance 19 = .ok (.invokevirtual 81, 3) := by decide +kernel
theorem dX2_distance_22 : decode cX2_distance 22 = .ok (.ifCond .eq 7, 3) := by decide +kernel
theorem dX2_distance_25 : decode cX2_distance 25 = .ok (.iconst 1, 1) := by decide +kernel
theorem dX2_distance_26 : decode cX2_distance 26 = .ok (.goto 4, 3) := by decide +kernel
theorem dX2_distance_29 : decode cX2_distance 29 = .ok (.iconst 2, 1) := by decide +kernel
theorem dX2_distance_30 : decode cX2_distance 30 = .ok (.ireturn, 1) := by decide +kernel
set_option maxRecDepth 20000 in
theorem ggX2_leadsTo_X2_firstSelector : GoodIn wsX2_leadsTo wsX2_firstSelector := goodIn_r _ [7, 8, 14, 15, 16, 17, 18, 19, 20, 21, 22] (by decide +kernel) (by decide +kernel)
set_option maxRecDepth 20000 in
theorem gX2_leadsTo_X2_firstSelector : GoodIn wsX2_leadsTo (wsV RX2 85 RX2 yX2_firstSelector wsX2_firstSelector) := goodIn_app (goodIn_of _ (by decide +kernel)) ggX2_leadsTo_X2_firstSelector
set_option maxRecDepth 20000 in
theorem ggX2_leadsTo_X2_isOuter : GoodIn wsX2_leadsTo wsX2_isOuter := goodIn_r _ [12, 1, 2, 13, 14, 15, 16, 17, 18, 19, 20, 21, 22] (by decide +kernel) (by decide +kernel)
set_option maxRecDepth 20000 in
theorem gX2_leadsTo_X2_isOuter : GoodIn wsX2_leadsTo (wsV RX2 88 RX2 yX2_isOuter wsX2_isOuter) := goodIn_app (goodIn_of _ (by decide +kernel)) ggX2_leadsTo_X2_isOuter
theorem dX2_leadsTo_0 : decode cX2_leadsTo 0 = .ok (.iload_n 2, 1) := by decide +kernel
theorem dX2_leadsTo_1 : decode cX2_leadsTo 1 = .ok (.aload_n 0, 1) := by decide +kernel
theorem dX2_leadsTo_2 : decode cX2_leadsTo 2 = .ok (.invokevirtual 85, 3) := by decide +kernel
theorem dX2_leadsTo_5 : decode cX2_leadsTo 5 = .ok (.if_icmp .lt 5, 3) := by decide +kernel
theorem dX2_leadsTo_8 : decode cX2_leadsTo 8 = .ok (.iconst 0, 1) := by decide +kernel
theorem dX2_leadsTo_9 : decode cX2_leadsTo 9 = .ok (.ireturn, 1) := by decide +kernel
theorem dX2_leadsTo_10 : decode cX2_leadsTo 10 = .ok (.iload_n 1, 1) := by decide +kernel
theorem dX2_leadsTo_11 : decode cX2_leadsTo 11 = .ok (.aload_n 0, 1) := by decide +kernel
theorem dX2_leadsTo_12 : decode cX2_leadsTo 12 = .ok (.invokevirtual 85, 3) := by decide +kernel
theorem dX2_leadsTo_15 : decode cX2_leadsTo 15 = .ok (.if_icmp .lt 16, 3) := by decide +kernel
theorem dX2_leadsTo_18 : decode cX2_leadsTo 18 = .ok (.aload_n 0, 1) := by decide +kernel
theorem dX2_leadsTo_19 : decode cX2_leadsTo 19 = .ok (.iload_n 2, 1) := by decide +kernel
theorem dX2_leadsTo_20 : decode cX2_leadsTo 20 = .ok (.bipush 6, 2) := by decide +kernel
theorem dX2_leadsTo_22 : decode cX2_leadsTo 22 = .ok (.idiv, 1) := by decide +kernel
theorem dX2_leadsTo_23 : decode cX2_leadsTo 23 = .ok (.iload_n 2, 1) := by decide +kernel
theorem dX2_leadsTo_24 : decode cX2_leadsTo 24 = .ok (.bipush 6, 2) := by decide +kernel
theorem dX2_leadsTo_26 : decode cX2_leadsTo 26 = .ok (.irem, 1) := by decide +kernel
theorem dX2_leadsTo_27 : decode cX2_leadsTo 27 = .ok (.invokevirtual 88, 3) := by decide +kernel
theorem dX2_leadsTo_30 : decode cX2_leadsTo 30 = .ok (.ireturn, 1) := by decide +kernel
theorem dX2_leadsTo_31 : decode cX2_leadsTo 31 = .ok (.iload_n 1, 1) := by decide +kernel
theorem dX2_leadsTo_32 : decode cX2_leadsTo 32 = .ok (.bipush 6, 2) := by decide +kernel
theorem dX2_leadsTo_34 : decode cX2_leadsTo 34 = .ok (.idiv, 1) := by decide +kernel
theorem dX2_leadsTo_35 : decode cX2_leadsTo 35 = .ok (.istore_n 3, 1) := by decide +kernel
theorem dX2_leadsTo_36 : decode cX2_leadsTo 36 = .ok (.iload_n 2, 1) := by decide +kernel
theorem dX2_leadsTo_37 : decode cX2_leadsTo 37 = .ok (.bipush 6, 2) := by decide +kernel
theorem dX2_leadsTo_39 : decode cX2_leadsTo 39 = .ok (.idiv, 1) := by decide +kernel
theorem dX2_leadsTo_40 : decode cX2_leadsTo 40 = .ok (.istore 4, 2) := by decide +kernel
theorem dX2_leadsTo_42 : decode cX2_leadsTo 42 = .ok (.iload_n 1, 1) := by decide +kernel
theorem dX2_leadsTo_43 : decode cX2_leadsTo 43 = .ok (.bipush 6, 2) := by decide +kernel
theorem dX2_leadsTo_45 : decode cX2_leadsTo 45 = .ok (.irem, 1) := by decide +kernel
theorem dX2_leadsTo_46 : decode cX2_leadsTo 46 = .ok (.istore 5, 2) := by decide +kernel
theorem dX2_leadsTo_48 : decode cX2_leadsTo 48 = .ok (.iload_n 2, 1) := by decide +kernel
theorem dX2_leadsTo_49 : decode cX2_leadsTo 49 = .ok (.bipush 6, 2) := by decide +kernel
theorem dX2_leadsTo_51 : decode cX2_leadsTo 51 = .ok (.irem, 1) := by decide +kernel
theorem dX2_leadsTo_52 : decode cX2_leadsTo 52 = .ok (.istore 6, 2) := by decide +kernel
theorem dX2_leadsTo_54 : decode cX2_leadsTo 54 = .ok (.iload_n 3, 1) := by decide +kernel
theorem dX2_leadsTo_55 : decode cX2_leadsTo 55 = .ok (.iload 4, 2) := by decide +kernel
theorem dX2_leadsTo_57 : decode cX2_leadsTo 57 = .ok (.if_icmp .ne 18, 3) := by decide +kernel
theorem dX2_leadsTo_60 : decode cX2_leadsTo 60 = .ok (.iload 6, 2) := by decide +kernel
theorem dX2_leadsTo_62 : decode cX2_leadsTo 62 = .ok (.iload 5, 2) := by decide +kernel
theorem dX2_leadsTo_64 : decode cX2_leadsTo 64 = .ok (.iconst 1, 1) := by decide +kernel
theorem dX2_leadsTo_65 : decode cX2_leadsTo 65 = .ok (.iadd, 1) := by decide +kernel
theorem dX2_leadsTo_66 : decode cX2_leadsTo 66 = .ok (.if_icmp .ne 7, 3) := by decide +kernel
theorem dX2_leadsTo_69 : decode cX2_leadsTo 69 = .ok (.iconst 1, 1) := by decide +kernel
theorem dX2_leadsTo_70 : decode cX2_leadsTo 70 = .ok (.goto 4, 3) := by decide +kernel
theorem dX2_leadsTo_73 : decode cX2_leadsTo 73 = .ok (.iconst 0, 1) := by decide +kernel
theorem dX2_leadsTo_74 : decode cX2_leadsTo 74 = .ok (.ireturn, 1) := by decide +kernel
theorem dX2_leadsTo_75 : decode cX2_leadsTo 75 = .ok (.iload_n 3, 1) := by decide +kernel
theorem dX2_leadsTo_76 : decode cX2_leadsTo 76 = .ok (.iconst 1, 1) := by decide +kernel
theorem dX2_leadsTo_77 : decode cX2_leadsTo 77 = .ok (.ixor, 1) := by decide +kernel
theorem dX2_leadsTo_78 : decode cX2_leadsTo 78 = .ok (.iload 4, 2) := by decide +kernel
theorem dX2_leadsTo_80 : decode cX2_leadsTo 80 = .ok (.if_icmp .ne 32, 3) := by decide +kernel
theorem dX2_leadsTo_83 : decode cX2_leadsTo 83 = .ok (.iload 5, 2) := by decide +kernel
theorem dX2_leadsTo_85 : decode cX2_leadsTo 85 = .ok (.iconst 2, 1) := by decide +kernel
theorem dX2_leadsTo_86 : decode cX2_leadsTo 86 = .ok (.if_icmp .ne 8, 3) := by decide +kernel
theorem dX2_leadsTo_89 : decode cX2_leadsTo 89 = .ok (.iload 6, 2) := by decide +kernel
theorem dX2_leadsTo_91 : decode cX2_leadsTo 91 = .ok (.ifCond .eq 15, 3) := by decide +kernel
theorem dX2_leadsTo_94 : decode cX2_leadsTo 94 = .ok (.iload 5, 2) := by decide +kernel
theorem dX2_leadsTo_96 : decode cX2_leadsTo 96 = .ok (.iconst 5, 1) := by decide +kernel
theorem dX2_leadsTo_97 : decode cX2_leadsTo 97 = .ok (.if_icmp .ne 13, 3) := by decide +kernel
theorem dX2_leadsTo_100 : decode cX2_leadsTo 100 = .ok (.iload 6, 2) := by decide +kernel
theorem dX2_leadsTo_102 : decode cX2_leadsTo 102 = .ok (.iconst 3, 1) := by decide +kernel
theorem dX2_leadsTo_103 : decode cX2_leadsTo 103 = .ok (.if_icmp .ne 7, 3) := by decide +kernel
theorem dX2_leadsTo_106 : decode cX2_leadsTo 106 = .ok (.iconst 1, 1) := by decide +kernel
theorem dX2_leadsTo_107 : decode cX2_leadsTo 107 = .ok (.goto 4, 3) := by decide +kernel
theorem dX2_leadsTo_110 : decode cX2_leadsTo 110 = .ok (.iconst 0, 1) := by decide +kernel
theorem dX2_leadsTo_111 : decode cX2_leadsTo 111 = .ok (.ireturn, 1) := by decide +kernel
theorem dX2_leadsTo_112 : decode cX2_leadsTo 112 = .ok (.iload 5, 2) := by decide +kernel
theorem dX2_leadsTo_114 : decode cX2_leadsTo 114 = .ok (.iconst 5, 1) := by decide +kernel
theorem dX2_leadsTo_115 : decode cX2_leadsTo 115 = .ok (.if_icmp .ne 46, 3) := by decide +kernel
theorem dX2_leadsTo_118 : decode cX2_leadsTo 118 = .ok (.iload 6, 2) := by decide +kernel
theorem dX2_leadsTo_120 : decode cX2_leadsTo 120 = .ok (.ifCond .ne 41, 3) := by decide +kernel
theorem dX2_leadsTo_123 : decode cX2_leadsTo 123 = .ok (.aload_n 0, 1) := by decide +kernel
theorem dX2_leadsTo_124 : decode cX2_leadsTo 124 = .ok (.getfield 7, 3) := by decide +kernel
theorem dX2_leadsTo_127 : decode cX2_leadsTo 127 = .ok (.iload_n 3, 1) := by decide +kernel
theorem dX2_leadsTo_128 : decode cX2_leadsTo 128 = .ok (.iaload, 1) := by decide +kernel
theorem dX2_leadsTo_129 : decode cX2_leadsTo 129 = .ok (.aload_n 0, 1) := by decide +kernel
theorem dX2_leadsTo_130 : decode cX2_leadsTo 130 = .ok (.getfield 7, 3) := by decide +kernel
theorem dX2_leadsTo_133 : decode cX2_leadsTo 133 = .ok (.iload 4, 2) := by decide +kernel
theorem dX2_leadsTo_135 : decode cX2_leadsTo 135 = .ok (.iaload, 1) := by decide +kernel
theorem dX2_leadsTo_136 : decode cX2_leadsTo 136 = .ok (.if_icmp .ne 25, 3) := by decide +kernel
theorem dX2_leadsTo_139 : decode cX2_leadsTo 139 = .ok (.aload_n 0, 1) := by decide +kernel
theorem dX2_leadsTo_140 : decode cX2_leadsTo 140 = .ok (.getfield 16, 3) := by decide +kernel
theorem dX2_leadsTo_143 : decode cX2_leadsTo 143 = .ok (.iload 4, 2) := by decide +kernel
theorem dX2_leadsTo_145 : decode cX2_leadsTo 145 = .ok (.iaload, 1) := by decide +kernel
theorem dX2_leadsTo_146 : decode cX2_leadsTo 146 = .ok (.aload_n 0, 1) := by decide +kernel
theorem dX2_leadsTo_147 : decode cX2_leadsTo 147 = .ok (.getfield 16, 3) := by decide +kernel
theorem dX2_leadsTo_150 : decode cX2_leadsTo 150 = .ok (.iload_n 3, 1) := by decide +kernel
theorem dX2_leadsTo_151 : decode cX2_leadsTo 151 = .ok (.iaload, 1) := by decide +kernel
theorem dX2_leadsTo_152 : decode cX2_leadsTo 152 = .ok (.iconst 1, 1) := by decide +kernel
theorem dX2_leadsTo_153 : decode cX2_leadsTo 153 = .ok (.iadd, 1) := by decide +kernel
theorem dX2_leadsTo_154 : decode cX2_leadsTo 154 = .ok (.if_icmp .ne 7, 3) := by decide +kernel
theorem dX2_leadsTo_157 : decode cX2_leadsTo 157 = .ok (.iconst 1, 1) := by decide +kernel
theorem dX2_leadsTo_158 : decode cX2_leadsTo 158 = .ok (.goto 4, 3) := by decide +kernel
theorem dX2_leadsTo_161 : decode cX2_leadsTo 161 = .ok (.iconst 0, 1) := by decide +kernel
theorem dX2_leadsTo_162 : decode cX2_leadsTo 162 = .ok (.ireturn, 1) := by decide +kernel
theorem dX2_isOuter_0 : decode cX2_isOuter 0 = .ok (.aload_n 0, 1) := by decide +kernel
theorem dX2_isOuter_1 : decode cX2_isOuter 1 = .ok (.getfield 7, 3) := by decide +kernel
theorem dX2_isOuter_4 : decode cX2_isOuter 4 = .ok (.iload_n 1, 1) := by decide +kernel
theorem dX2_isOuter_5 : decode cX2_isOuter 5 = .ok (.iaload, 1) := by decide +kernel
theorem dX2_isOuter_6 : decode cX2_isOuter 6 = .ok (.istore_n 3, 1) := by decide +kernel
theorem dX2_isOuter_7 : decode cX2_isOuter 7 = .ok (.iload_n 2, 1) := by decide +kernel
theorem dX2_isOuter_8 : decode cX2_isOuter 8 = .ok (.ifCond .ne 18, 3) := by decide +kernel
theorem dX2_isOuter_11 : decode cX2_isOuter 11 = .ok (.aload_n 0, 1) := by decide +kernel
theorem dX2_isOuter_12 : decode cX2_isOuter 12 = .ok (.getfield 16, 3) := by decide +kernel
theorem dX2_isOuter_15 : decode cX2_isOuter 15 = .ok (.iload_n 1, 1) := by decide +kernel
theorem dX2_isOuter_16 : decode cX2_isOuter 16 = .ok (.iaload, 1) := by decide +kernel
theorem dX2_isOuter_17 : decode cX2_isOuter 17 = .ok (.aload_n 0, 1) := by decide +kernel
theorem dX2_isOuter_18 : decode cX2_isOuter 18 = .ok (.getfield 19, 3) := by decide +kernel
theorem dX2_isOuter_21 : decode cX2_isOuter 21 = .ok (.iload_n 3, 1) := by decide +kernel
theorem dX2_isOuter_22 : decode cX2_isOuter 22 = .ok (.iaload, 1) := by decide +kernel
theorem dX2_isOuter_23 : decode cX2_isOuter 23 = .ok (.if_icmp .eq 27, 3) := by decide +kernel
theorem dX2_isOuter_26 : decode cX2_isOuter 26 = .ok (.iload_n 2, 1) := by decide +kernel
theorem dX2_isOuter_27 : decode cX2_isOuter 27 = .ok (.iconst 5, 1) := by decide +kernel
theorem dX2_isOuter_28 : decode cX2_isOuter 28 = .ok (.if_icmp .ne 26, 3) := by decide +kernel
theorem dX2_isOuter_31 : decode cX2_isOuter 31 = .ok (.aload_n 0, 1) := by decide +kernel
theorem dX2_isOuter_32 : decode cX2_isOuter 32 = .ok (.getfield 16, 3) := by decide +kernel
theorem dX2_isOuter_35 : decode cX2_isOuter 35 = .ok (.iload_n 1, 1) := by decide +kernel
theorem dX2_isOuter_36 : decode cX2_isOuter 36 = .ok (.iaload, 1) := by decide +kernel
theorem dX2_isOuter_37 : decode cX2_isOuter 37 = .ok (.aload_n 0, 1) := by decide +kernel
theorem dX2_isOuter_38 : decode cX2_isOuter 38 = .ok (.getfield 19, 3) := by decide +kernel
theorem dX2_isOuter_41 : decode cX2_isOuter 41 = .ok (.iload_n 3, 1) := by decide +kernel
theorem dX2_isOuter_42 : decode cX2_isOuter 42 = .ok (.iconst 1, 1) := by decide +kernel
theorem dX2_isOuter_43 : decode cX2_isOuter 43 = .ok (.iadd, 1) := by decide +kernel
theorem dX2_isOuter_44 : decode cX2_isOuter 44 = .ok (.iaload, 1) := by decide +kernel
theorem dX2_isOuter_45 : decode cX2_isOuter 45 = .ok (.iconst 1, 1) := by decide +kernel
theorem dX2_isOuter_46 : decode cX2_isOuter 46 = .ok (.isub, 1) := by decide +kernel
theorem dX2_isOuter_47 : decode cX2_isOuter 47 = .ok (.if_icmp .ne 7, 3) := by decide +kernel
theorem dX2_isOuter_50 : decode cX2_isOuter 50 = .ok (.iconst 1, 1) := by decide +kernel
theorem dX2_isOuter_51 : decode cX2_isOuter 51 = .ok (.goto 4, 3) := by decide +kernel
theorem dX2_isOuter_54 : decode cX2_isOuter 54 = .ok (.iconst 0, 1) := by decide +kernel
theorem dX2_isOuter_55 : decode cX2_isOuter 55 = .ok (.ireturn, 1) := by decide +kernel
theorem dX3_init_0 : decode cX3_init 0 = .ok (.aload_n 0, 1) := by decide +kernel
theorem dX3_init_1 : decode cX3_init 1 = .ok (.invokespecial 3, 3) := by decide +kernel
theorem dX3_init_4 : decode cX3_init 4 = .ok (.aload_n 0, 1) := by decide +kernel
theorem dX3_init_5 : decode cX3_init 5 = .ok (.bipush 8, 2) := by decide +kernel
theorem dX3_init_7 : decode cX3_init 7 = .ok (.newarray .int, 2) := by decide +kernel
theorem dX3_init_9 : decode cX3_init 9 = .ok (.putfield 9, 3) := by decide +kernel
theorem dX3_init_12 : decode cX3_init 12 = .ok (.aload_n 0, 1) := by decide +kernel
theorem dX3_init_13 : decode cX3_init 13 = .ok (.bipush 8, 2) := by decide +kernel
theorem dX3_init_15 : decode cX3_init 15 = .ok (.newarray .int, 2) := by decide +kernel
theorem dX3_init_17 : decode cX3_init 17 = .ok (.putfield 15, 3) := by decide +kernel
theorem dX3_init_20 : decode cX3_init 20 = .ok (.aload_n 0, 1) := by decide +kernel
theorem dX3_init_21 : decode cX3_init 21 = .ok (.bipush 8, 2) := by decide +kernel
theorem dX3_init_23 : decode cX3_init 23 = .ok (.newarray .int, 2) := by decide +kernel
theorem dX3_init_25 : decode cX3_init 25 = .ok (.putfield 18, 3) := by decide +kernel
theorem dX3_init_28 : decode cX3_init 28 = .ok (.aload_n 0, 1) := by decide +kernel
theorem dX3_init_29 : decode cX3_init 29 = .ok (.bipush 8, 2) := by decide +kernel
theorem dX3_init_31 : decode cX3_init 31 = .ok (.newarray .int, 2) := by decide +kernel
theorem dX3_init_33 : decode cX3_init 33 = .ok (.putfield 21, 3) := by decide +kernel
theorem dX3_init_36 : decode cX3_init 36 = .ok (.aload_n 0, 1) := by decide +kernel
theorem dX3_init_37 : decode cX3_init 37 = .ok (.bipush 8, 2) := by decide +kernel
theorem dX3_init_39 : decode cX3_init 39 = .ok (.newarray .int, 2) := by decide +kernel
theorem dX3_init_41 : decode cX3_init 41 = .ok (.putfield 24, 3) := by decide +kernel
theorem dX3_init_44 : decode cX3_init 44 = .ok (.aload_n 0, 1) := by decide +kernel
theorem dX3_init_45 : decode cX3_init 45 = .ok (.iconst 4, 1) := by decide +kernel
theorem dX3_init_46 : decode cX3_init 46 = .ok (.newarray .int, 2) := by decide +kernel
theorem dX3_init_48 : decode cX3_init 48 = .ok (.putfield 27, 3) := by decide +kernel
theorem dX3_init_51 : decode cX3_init 51 = .ok (.return_, 1) := by decide +kernel
set_option maxRecDepth 20000 in
theorem ggX3_renew_J7_fill_53178 : GoodIn wsX3_renew wsJ7_fill_53178 := goodIn_r _ [9] (by decide +kernel) (by decide +kernel)
set_option maxRecDepth 20000 in
theorem gX3_renew_J7_fill_53178 : GoodIn wsX3_renew (va_wsS RX3 43 yJ7_fill_53178 wsJ7_fill_53178) := goodIn_app (goodIn_of _ (by decide +kernel)) ggX3_renew_J7_fill_53178
theorem dX3_renew_0 : decode cX3_renew 0 = .ok (.aload_n 0, 1) := by decide +kernel
theorem dX3_renew_1 : decode cX3_renew 1 = .ok (.iload_n 1, 1) := by decide +kernel
theorem dX3_renew_2 : decode cX3_renew 2 = .ok (.putfield 30, 3) := by decide +kernel
theorem dX3_renew_5 : decode cX3_renew 5 = .ok (.aload_n 0, 1) := by decide +kernel
theorem dX3_renew_6 : decode cX3_renew 6 = .ok (.iload_n 2, 1) := by decide +kernel
theorem dX3_renew_7 : decode cX3_renew 7 = .ok (.putfield 34, 3) := by decide +kernel
theorem dX3_renew_10 : decode cX3_renew 10 = .ok (.aload_n 0, 1) := by decide +kernel
theorem dX3_renew_11 : decode cX3_renew 11 = .ok (.iload_n 3, 1) := by decide +kernel
theorem dX3_renew_12 : decode cX3_renew 12 = .ok (.putfield 37, 3) := by decide +kernel
theorem dX3_renew_15 : decode cX3_renew 15 = .ok (.aload_n 0, 1) := by decide +kernel
theorem dX3_renew_16 : decode cX3_renew 16 = .ok (.iconst 0, 1) := by decide +kernel
theorem dX3_renew_17 : decode cX3_renew 17 = .ok (.putfield 40, 3) := by decide +kernel
theorem dX3_renew_20 : decode cX3_renew 20 = .ok (.aload_n 0, 1) := by decide +kernel
theorem dX3_renew_21 : decode cX3_renew 21 = .ok (.getfield 27, 3) := by decide +kernel
theorem dX3_renew_24 : decode cX3_renew 24 = .ok (.iconst 0, 1) := by decide +kernel
theorem dX3_renew_25 : decode cX3_renew 25 = .ok (.invokestatic 43, 3) := by decide +kernel
theorem dX3_renew_28 : decode cX3_renew 28 = .ok (.return_, 1) := by decide +kernel
set_option maxRecDepth 20000 in
theorem ggX3_isRule_X3_accept : GoodIn wsX3_isRule wsX3_accept := goodIn_r _ [7, 2, 11, 12, 13, 14, 15, 16, 17, 18, 19, 20] (by decide +kernel) (by decide +kernel)
set_option maxRecDepth 20000 in
theorem gX3_isRule_X3_accept : GoodIn wsX3_isRule (wsV RX3 49 RX3 yX3_accept wsX3_accept) := goodIn_app (goodIn_of _ (by decide +kernel)) ggX3_isRule_X3_accept
set_option maxRecDepth 20000 in
theorem ggX3_isRule_X7_isIndex : GoodIn wsX3_isRule wsX7_isIndex := goodIn_r _ [10] (by decide +kernel) (by decide +kernel)
set_option maxRecDepth 20000 in
theorem gX3_isRule_X7_isIndex_n53 : GoodIn wsX3_isRule (wsX7_isIndex) := ggX3_isRule_X7_isIndex
theorem dX3_isRule_0 : decode cX3_isRule 0 = .ok (.iload_n 1, 1) := by decide +kernel
theorem dX3_isRule_1 : decode cX3_isRule 1 = .ok (.aload_n 0, 1) := by decide +kernel
theorem dX3_isRule_2 : decode cX3_isRule 2 = .ok (.invokevirtual 49, 3) := by decide +kernel
theorem dX3_isRule_5 : decode cX3_isRule 5 = .ok (.invokestatic 53, 3) := by decide +kernel
theorem dX3_isRule_8 : decode cX3_isRule 8 = .ok (.ifCond .eq 50, 3) := by decide +kernel
theorem dX3_isRule_11 : decode cX3_isRule 11 = .ok (.iload_n 2, 1) := by decide +kernel
theorem dX3_isRule_12 : decode cX3_isRule 12 = .ok (.aload_n 0, 1) := by decide +kernel
theorem dX3_isRule_13 : decode cX3_isRule 13 = .ok (.getfield 34, 3) := by decide +kernel
theorem dX3_isRule_16 : decode cX3_isRule 16 = .ok (.invokestatic 53, 3) := by decide +kernel
theorem dX3_isRule_19 : decode cX3_isRule 19 = .ok (.ifCond .eq 39, 3) := by decide +kernel
theorem dX3_isRule_22 : decode cX3_isRule 22 = .ok (.iload_n 3, 1) := by decide +kernel
theorem dX3_isRule_23 : decode cX3_isRule 23 = .ok (.aload_n 0, 1) := by decide +kernel
theorem dX3_isRule_24 : decode cX3_isRule 24 = .ok (.getfield 30, 3) := by decide +kernel
theorem dX3_isRule_27 : decode cX3_isRule 27 = .ok (.invokestatic 53, 3) := by decide +kernel
theorem dX3_isRule_30 : decode cX3_isRule 30 = .ok (.ifCond .eq 28, 3) := by decide +kernel
theorem dX3_isRule_33 : decode cX3_isRule 33 = .ok (.iload 4, 2) := by decide +kernel
theorem dX3_isRule_35 : decode cX3_isRule 35 = .ok (.aload_n 0, 1) := by decide +kernel
theorem dX3_isRule_36 : decode cX3_isRule 36 = .ok (.getfield 34, 3) := by decide +kernel
theorem dX3_isRule_39 : decode cX3_isRule 39 = .ok (.invokestatic 53, 3) := by decide +kernel
theorem dX3_isRule_42 : decode cX3_isRule 42 = .ok (.ifCond .eq 16, 3) := by decide +kernel
theorem dX3_isRule_45 : decode cX3_isRule 45 = .ok (.iload 5, 2) := by decide +kernel
theorem dX3_isRule_47 : decode cX3_isRule 47 = .ok (.iconst 3, 1) := by decide +kernel
theorem dX3_isRule_48 : decode cX3_isRule 48 = .ok (.invokestatic 53, 3) := by decide +kernel
theorem dX3_isRule_51 : decode cX3_isRule 51 = .ok (.ifCond .eq 7, 3) := by decide +kernel
theorem dX3_isRule_54 : decode cX3_isRule 54 = .ok (.iconst 1, 1) := by decide +kernel
theorem dX3_isRule_55 : decode cX3_isRule 55 = .ok (.goto 4, 3) := by decide +kernel
theorem dX3_isRule_58 : decode cX3_isRule 58 = .ok (.iconst 0, 1) := by decide +kernel
theorem dX3_isRule_59 : decode cX3_isRule 59 = .ok (.ireturn, 1) := by decide +kernel
theorem dX3_addRule_0 : decode cX3_addRule 0 = .ok (.aload_n 0, 1) := by decide +kernel
theorem dX3_addRule_1 : decode cX3_addRule 1 = .ok (.getfield 9, 3) := by decide +kernel
theorem dX3_addRule_4 : decode cX3_addRule 4 = .ok (.aload_n 0, 1) := by decide +kernel
theorem dX3_addRule_5 : decode cX3_addRule 5 = .ok (.getfield 40, 3) := by decide +kernel
theorem dX3_addRule_8 : decode cX3_addRule 8 = .ok (.iload_n 1, 1) := by decide +kernel
theorem dX3_addRule_9 : decode cX3_addRule 9 = .ok (.iastore, 1) := by decide +kernel
theorem dX3_addRule_10 : decode cX3_addRule 10 = .ok (.aload_n 0, 1) := by decide +kernel
theorem dX3_addRule_11 : decode cX3_addRule 11 = .ok (.getfield 15, 3) := by decide +kernel
theorem dX3_addRule_14 : decode cX3_addRule 14 = .ok (.aload_n 0, 1) := by decide +kernel
theorem dX3_addRule_15 : decode cX3_addRule 15 = .ok (.getfield 40, 3) := by decide +kernel
theorem dX3_addRule_18 : decode cX3_addRule 18 = .ok (.iload_n 2, 1) := by decide +kernel
theorem dX3_addRule_19 : decode cX3_addRule 19 = .ok (.iastore, 1) := by decide +kernel
theorem dX3_addRule_20 : decode cX3_addRule 20 = .ok (.aload_n 0, 1) := by decide +kernel
theorem dX3_addRule_21 : decode cX3_addRule 21 = .ok (.getfield 18, 3) := by decide +kernel
theorem dX3_addRule_24 : decode cX3_addRule 24 = .ok (.aload_n 0, 1) := by decide +kernel
theorem dX3_addRule_25 : decode cX3_addRule 25 = .ok (.getfield 40, 3) := by decide +kernel
theorem dX3_addRule_28 : decode cX3_addRule 28 = .ok (.iload_n 3, 1) := by decide +kernel
theorem dX3_addRule_29 : decode cX3_addRule 29 = .ok (.iastore, 1) := by decide +kernel
theorem dX3_addRule_30 : decode cX3_addRule 30 = .ok (.aload_n 0, 1) := by decide +kernel
theorem dX3_addRule_31 : decode cX3_addRule 31 = .ok (.getfield 21, 3) := by decide +kernel
theorem dX3_addRule_34 : decode cX3_addRule 34 = .ok (.aload_n 0, 1) := by decide +kernel
theorem dX3_addRule_35 : decode cX3_addRule 35 = .ok (.getfield 40, 3) := by decide +kernel
theorem dX3_addRule_38 : decode cX3_addRule 38 = .ok (.iload 4, 2) := by decide +kernel
theorem dX3_addRule_40 : decode cX3_addRule 40 = .ok (.iastore, 1) := by decide +kernel
theorem dX3_addRule_41 : decode cX3_addRule 41 = .ok (.aload_n 0, 1) := by decide +kernel
theorem dX3_addRule_42 : decode cX3_addRule 42 = .ok (.getfield 24, 3) := by decide +kernel
theorem dX3_addRule_45 : decode cX3_addRule 45 = .ok (.aload_n 0, 1) := by decide +kernel
theorem dX3_addRule_46 : decode cX3_addRule 46 = .ok (.getfield 40, 3) := by decide +kernel
theorem dX3_addRule_49 : decode cX3_addRule 49 = .ok (.iload 5, 2) := by decide +kernel
theorem dX3_addRule_51 : decode cX3_addRule 51 = .ok (.iconst 1, 1) := by decide +kernel
theorem dX3_addRule_52 : decode cX3_addRule 52 = .ok (.isub, 1) := by decide +kernel
theorem dX3_addRule_53 : decode cX3_addRule 53 = .ok (.iastore, 1) := by decide +kernel
theorem dX3_addRule_54 : decode cX3_addRule 54 = .ok (.aload_n 0, 1) := by decide +kernel
theorem dX3_addRule_55 : decode cX3_addRule 55 = .ok (.dup, 1) := by decide +kernel
theorem dX3_addRule_56 : decode cX3_addRule 56 = .ok (.getfield 40, 3) := by decide +kernel
theorem dX3_addRule_59 : decode cX3_addRule 59 = .ok (.iconst 1, 1) := by decide +kernel
theorem dX3_addRule_60 : decode cX3_addRule 60 = .ok (.iadd, 1) := by decide +kernel
theorem dX3_addRule_61 : decode cX3_addRule 61 = .ok (.putfield 40, 3) := by decide +kernel
theorem dX3_addRule_64 : decode cX3_addRule 64 = .ok (.aload_n 0, 1) := by decide +kernel
theorem dX3_addRule_65 : decode cX3_addRule 65 = .ok (.getfield 40, 3) := by decide +kernel
theorem dX3_addRule_68 : decode cX3_addRule 68 = .ok (.iconst 1, 1) := by decide +kernel
theorem dX3_addRule_69 : decode cX3_addRule 69 = .ok (.isub, 1) := by decide +kernel
theorem dX3_addRule_70 : decode cX3_addRule 70 = .ok (.ireturn, 1) := by decide +kernel
theorem dX3_accept_0 : decode cX3_accept 0 = .ok (.aload_n 0, 1) := by decide +kernel
theorem dX3_accept_1 : decode cX3_accept 1 = .ok (.getfield 30, 3) := by decide +kernel
theorem dX3_accept_4 : decode cX3_accept 4 = .ok (.iconst 1, 1) := by decide +kernel
theorem dX3_accept_5 : decode cX3_accept 5 = .ok (.isub, 1) := by decide +kernel
theorem dX3_accept_6 : decode cX3_accept 6 = .ok (.ireturn, 1) := by decide +kernel
theorem dX3_cells_0 : decode cX3_cells 0 = .ok (.aload_n 0, 1) := by decide +kernel
theorem dX3_cells_1 : decode cX3_cells 1 = .ok (.getfield 37, 3) := by decide +kernel
theorem dX3_cells_4 : decode cX3_cells 4 = .ok (.iconst 1, 1) := by decide +kernel
theorem dX3_cells_5 : decode cX3_cells 5 = .ok (.iadd, 1) := by decide +kernel
theorem dX3_cells_6 : decode cX3_cells 6 = .ok (.ireturn, 1) := by decide +kernel
theorem dX3_rows_0 : decode cX3_rows 0 = .ok (.aload_n 0, 1) := by decide +kernel
theorem dX3_rows_1 : decode cX3_rows 1 = .ok (.getfield 37, 3) := by decide +kernel
theorem dX3_rows_4 : decode cX3_rows 4 = .ok (.iconst 1, 1) := by decide +kernel
theorem dX3_rows_5 : decode cX3_rows 5 = .ok (.iadd, 1) := by decide +kernel
theorem dX3_rows_6 : decode cX3_rows 6 = .ok (.ireturn, 1) := by decide +kernel
theorem dX4_init_0 : decode cX4_init 0 = .ok (.aload_n 0, 1) := by decide +kernel
theorem dX4_init_1 : decode cX4_init 1 = .ok (.invokespecial 1, 3) := by decide +kernel
theorem dX4_init_4 : decode cX4_init 4 = .ok (.aload_n 0, 1) := by decide +kernel
theorem dX4_init_5 : decode cX4_init 5 = .ok (.bipush 64, 2) := by decide +kernel
theorem dX4_init_7 : decode cX4_init 7 = .ok (.newarray .int, 2) := by decide +kernel
theorem dX4_init_9 : decode cX4_init 9 = .ok (.putfield 7, 3) := by decide +kernel
theorem dX4_init_12 : decode cX4_init 12 = .ok (.aload_n 0, 1) := by decide +kernel
theorem dX4_init_13 : decode cX4_init 13 = .ok (.iconst 0, 1) := by decide +kernel
theorem dX4_init_14 : decode cX4_init 14 = .ok (.putfield 13, 3) := by decide +kernel
theorem dX4_init_17 : decode cX4_init 17 = .ok (.return_, 1) := by decide +kernel
set_option maxRecDepth 20000 in
theorem ggX4_add_J7_copyOf_59c91 : GoodIn wsX4_add wsJ7_copyOf_59c91 := goodIn_r _ [6, 7, 8, 9, 10, 11, 12, 13, 14, 15, 16, 17, 18, 19, 20, 21] (by decide +kernel) (by decide +kernel)
set_option maxRecDepth 20000 in
theorem gX4_add_J7_copyOf_59c91 : GoodIn wsX4_add (va_wsS RX4 17 yJ7_copyOf_59c91 wsJ7_copyOf_59c91) := goodIn_app (goodIn_of _ (by decide +kernel)) ggX4_add_J7_copyOf_59c91
theorem dX4_add_0 : decode cX4_add 0 = .ok (.aload_n 0, 1) := by decide +kernel
theorem dX4_add_1 : decode cX4_add 1 = .ok (.getfield 13, 3) := by decide +kernel
theorem dX4_add_4 : decode cX4_add 4 = .ok (.aload_n 0, 1) := by decide +kernel
theorem dX4_add_5 : decode cX4_add 5 = .ok (.getfield 7, 3) := by decide +kernel
theorem dX4_add_8 : decode cX4_add 8 = .ok (.arraylength, 1) := by decide +kernel
theorem dX4_add_9 : decode cX4_add 9 = .ok (.if_icmp .ne 20, 3) := by decide +kernel
theorem dX4_add_12 : decode cX4_add 12 = .ok (.aload_n 0, 1) := by decide +kernel
theorem dX4_add_13 : decode cX4_add 13 = .ok (.aload_n 0, 1) := by decide +kernel
theorem dX4_add_14 : decode cX4_add 14 = .ok (.getfield 7, 3) := by decide +kernel
theorem dX4_add_17 : decode cX4_add 17 = .ok (.iconst 2, 1) := by decide +kernel
theorem dX4_add_18 : decode cX4_add 18 = .ok (.aload_n 0, 1) := by decide +kernel
theorem dX4_add_19 : decode cX4_add 19 = .ok (.getfield 13, 3) := by decide +kernel
theorem dX4_add_22 : decode cX4_add 22 = .ok (.imul, 1) := by decide +kernel
theorem dX4_add_23 : decode cX4_add 23 = .ok (.invokestatic 17, 3) := by decide +kernel
theorem dX4_add_26 : decode cX4_add 26 = .ok (.putfield 7, 3) := by decide +kernel
theorem dX4_add_29 : decode cX4_add 29 = .ok (.aload_n 0, 1) := by decide +kernel
theorem dX4_add_30 : decode cX4_add 30 = .ok (.getfield 7, 3) := by decide +kernel
theorem dX4_add_33 : decode cX4_add 33 = .ok (.aload_n 0, 1) := by decide +kernel
theorem dX4_add_34 : decode cX4_add 34 = .ok (.getfield 13, 3) := by decide +kernel
theorem dX4_add_37 : decode cX4_add 37 = .ok (.iload_n 1, 1) := by decide +kernel
theorem dX4_add_38 : decode cX4_add 38 = .ok (.iastore, 1) := by decide +kernel
theorem dX4_add_39 : decode cX4_add 39 = .ok (.aload_n 0, 1) := by decide +kernel
theorem dX4_add_40 : decode cX4_add 40 = .ok (.dup, 1) := by decide +kernel
theorem dX4_add_41 : decode cX4_add 41 = .ok (.getfield 13, 3) := by decide +kernel
theorem dX4_add_44 : decode cX4_add 44 = .ok (.iconst 1, 1) := by decide +kernel
theorem dX4_add_45 : decode cX4_add 45 = .ok (.iadd, 1) := by decide +kernel
theorem dX4_add_46 : decode cX4_add 46 = .ok (.putfield 13, 3) := by decide +kernel
theorem dX4_add_49 : decode cX4_add 49 = .ok (.return_, 1) := by decide +kernel
theorem dX5_init_0 : decode cX5_init 0 = .ok (.aload_n 0, 1) := by decide +kernel
theorem dX5_init_1 : decode cX5_init 1 = .ok (.invokespecial 3, 3) := by decide +kernel
theorem dX5_init_4 : decode cX5_init 4 = .ok (.aload_n 0, 1) := by decide +kernel
theorem dX5_init_5 : decode cX5_init 5 = .ok (.iconst 3, 1) := by decide +kernel
theorem dX5_init_6 : decode cX5_init 6 = .ok (.newarray .int, 2) := by decide +kernel
theorem dX5_init_8 : decode cX5_init 8 = .ok (.putfield 9, 3) := by decide +kernel
theorem dX5_init_11 : decode cX5_init 11 = .ok (.aload_n 0, 1) := by decide +kernel
theorem dX5_init_12 : decode cX5_init 12 = .ok (.iconst 4, 1) := by decide +kernel
theorem dX5_init_13 : decode cX5_init 13 = .ok (.newarray .int, 2) := by decide +kernel
theorem dX5_init_15 : decode cX5_init 15 = .ok (.putfield 15, 3) := by decide +kernel
theorem dX5_init_18 : decode cX5_init 18 = .ok (.aload_n 0, 1) := by decide +kernel
theorem dX5_init_19 : decode cX5_init 19 = .ok (.iconst 4, 1) := by decide +kernel
theorem dX5_init_20 : decode cX5_init 20 = .ok (.newarray .int, 2) := by decide +kernel
theorem dX5_init_22 : decode cX5_init 22 = .ok (.putfield 18, 3) := by decide +kernel
theorem dX5_init_25 : decode cX5_init 25 = .ok (.aload_n 0, 1) := by decide +kernel
theorem dX5_init_26 : decode cX5_init 26 = .ok (.iconst 4, 1) := by decide +kernel
theorem dX5_init_27 : decode cX5_init 27 = .ok (.iconst 4, 1) := by decide +kernel
theorem dX5_init_28 : decode cX5_init 28 = .ok (.multianewarray 21 2, 4) := by decide +kernel
theorem dX5_init_32 : decode cX5_init 32 = .ok (.putfield 23, 3) := by decide +kernel
theorem dX5_init_35 : decode cX5_init 35 = .ok (.aload_n 0, 1) := by decide +kernel
theorem dX5_init_36 : decode cX5_init 36 = .ok (.aload_n 1, 1) := by decide +kernel
theorem dX5_init_37 : decode cX5_init 37 = .ok (.putfield 26, 3) := by decide +kernel
theorem dX5_init_40 : decode cX5_init 40 = .ok (.return_, 1) := by decide +kernel
set_option maxRecDepth 20000 in
theorem ggX5_find_X5_begin : GoodIn wsX5_find wsX5_begin := goodIn_r _ [5, 6, 7, 8, 9, 10, 11, 12, 13, 14, 15, 16, 17, 18, 19, 20, 53, 54, 55, 56, 57, 58, 59, 60, 61, 62, 63, 64, 65, 66, 67] (by decide +kernel) (by decide +kernel)
set_option maxRecDepth 20000 in
theorem gX5_find_X5_begin : GoodIn wsX5_find (wsV RX5 30 RX5 yX5_begin wsX5_begin) := goodIn_app (goodIn_of _ (by decide +kernel)) ggX5_find_X5_begin
set_option maxRecDepth 20000 in
theorem ggX5_find_X5_findFrom : GoodIn wsX5_find wsX5_findFrom := goodIn_r _ [24, 8, 25, 26, 27, 28, 29, 30, 4, 31, 7, 32, 33, 34, 18, 35, 36, 37, 38, 39, 40, 6, 41, 10, 42, 43, 15, 16, 17, 19, 20, 44, 45, 46, 47, 48, 49, 50, 11, 12, 13, 14, 51, 52, 21, 22, 23, 53, 54, 55, 56, 57, 58, 59, 60, 61, 62, 63, 64, 65, 66, 67] (by decide +kernel) (by decide +kernel)
set_option maxRecDepth 20000 in
theorem gX5_find_X5_findFrom : GoodIn wsX5_find (wsV RX5 33 RX5 yX5_findFrom wsX5_findFrom) := goodIn_app (goodIn_of _ (by decide +kernel)) ggX5_find_X5_findFrom
theorem dX5_find_0 : decode cX5_find 0 = .ok (.aload_n 0, 1) := by decide +kernel
theorem dX5_find_1 : decode cX5_find 1 = .ok (.invokevirtual 30, 3) := by decide +kernel
theorem dX5_find_4 : decode cX5_find 4 = .ok (.aload_n 0, 1) := by decide +kernel
theorem dX5_find_5 : decode cX5_find 5 = .ok (.iconst 0, 1) := by decide +kernel
theorem dX5_find_6 : decode cX5_find 6 = .ok (.invokevirtual 33, 3) := by decide +kernel
theorem dX5_find_9 : decode cX5_find 9 = .ok (.ireturn, 1) := by decide +kernel
set_option maxRecDepth 20000 in
theorem ggX5_findFrom_X5_accepts : GoodIn wsX5_findFrom wsX5_accepts := goodIn_r _ [9, 10, 1, 2, 11, 12, 13, 14, 15, 16, 47, 48, 49, 50, 51, 52, 53, 54, 55, 56, 57, 58, 59, 60, 61] (by decide +kernel) (by decide +kernel)
set_option maxRecDepth 20000 in
theorem gX5_findFrom_X5_accepts : GoodIn wsX5_findFrom (wsV RX5 43 RX5 yX5_accepts wsX5_accepts) := goodIn_app (goodIn_of _ (by decide +kernel)) ggX5_findFrom_X5_accepts
set_option maxRecDepth 20000 in
theorem ggX5_findFrom_X5_canUse : GoodIn wsX5_findFrom wsX5_canUse := goodIn_r _ [20, 1, 3, 10, 21, 22, 23, 24, 25, 11, 12, 13, 14, 15, 16, 26, 27, 28, 29, 30, 31, 32, 33, 47, 48, 49, 50, 51, 52, 53, 54, 55, 56, 57, 58, 59, 60, 61] (by decide +kernel) (by decide +kernel)
set_option maxRecDepth 20000 in
theorem gX5_findFrom_X5_canUse : GoodIn wsX5_findFrom (wsV RX5 50 RX5 yX5_canUse wsX5_canUse) := goodIn_app (goodIn_of _ (by decide +kernel)) ggX5_findFrom_X5_canUse
set_option maxRecDepth 20000 in
theorem ggX5_findFrom_X5_use : GoodIn wsX5_findFrom wsX5_use := goodIn_r _ [37, 1, 3, 21, 23, 38, 39, 40, 41, 42, 25, 10, 43, 26, 27, 28, 14, 29, 30, 47, 48, 49, 50, 51, 52, 53, 54, 55, 56, 57, 58, 59, 60, 61] (by decide +kernel) (by decide +kernel)
set_option maxRecDepth 20000 in
theorem gX5_findFrom_X5_use : GoodIn wsX5_findFrom (wsV RX5 54 RX5 yX5_use wsX5_use) := goodIn_app (goodIn_of _ (by decide +kernel)) ggX5_findFrom_X5_use
set_option maxRecDepth 20000 in
theorem ggX5_findFrom_X5_findFrom : GoodIn wsX5_findFrom wsX5_findFrom := goodIn_r _ [0, 1, 2, 3, 4, 5, 6, 7, 8, 9, 10, 11, 12, 13, 14, 15, 16, 17, 18, 19, 20, 21, 22, 23, 24, 25, 26, 27, 28, 29, 30, 31, 32, 33, 34, 35, 36, 37, 38, 39, 40, 41, 42, 43, 44, 45, 46, 47, 48, 49, 50, 51, 52, 53, 54, 55, 56, 57, 58, 59, 60, 61] (by decide +kernel) (by decide +kernel)
set_option maxRecDepth 20000 in
theorem gX5_findFrom_X5_findFrom : GoodIn wsX5_findFrom (wsV RX5 33 RX5 yX5_findFrom wsX5_findFrom) := goodIn_app (goodIn_of _ (by decide +kernel)) ggX5_findFrom_X5_findFrom
theorem dX5_findFrom_0 : decode cX5_findFrom 0 = .ok (.iload_n 1, 1) := by decide +kernel
theorem dX5_findFrom_1 : decode cX5_findFrom 1 = .ok (.aload_n 0, 1) := by decide +kernel
theorem dX5_findFrom_2 : decode cX5_findFrom 2 = .ok (.getfield 26, 3) := by decide +kernel
theorem dX5_findFrom_5 : decode cX5_findFrom 5 = .ok (.getfield 37, 3) := by decide +kernel
theorem dX5_findFrom_8 : decode cX5_findFrom 8 = .ok (.if_icmp .lt 8, 3) := by decide +kernel
theorem dX5_findFrom_11 : decode cX5_findFrom 11 = .ok (.aload_n 0, 1) := by decide +kernel
theorem dX5_findFrom_12 : decode cX5_findFrom 12 = .ok (.invokevirtual 43, 3) := by decide +kernel
theorem dX5_findFrom_15 : decode cX5_findFrom 15 = .ok (.ireturn, 1) := by decide +kernel
theorem dX5_findFrom_16 : decode cX5_findFrom 16 = .ok (.iconst 0, 1) := by decide +kernel
theorem dX5_findFrom_17 : decode cX5_findFrom 17 = .ok (.istore_n 2, 1) := by decide +kernel
theorem dX5_findFrom_18 : decode cX5_findFrom 18 = .ok (.iload_n 2, 1) := by decide +kernel
theorem dX5_findFrom_19 : decode cX5_findFrom 19 = .ok (.aload_n 0, 1) := by decide +kernel
theorem dX5_findFrom_20 : decode cX5_findFrom 20 = .ok (.getfield 26, 3) := by decide +kernel
theorem dX5_findFrom_23 : decode cX5_findFrom 23 = .ok (.getfield 47, 3) := by decide +kernel
theorem dX5_findFrom_26 : decode cX5_findFrom 26 = .ok (.if_icmp .gt 43, 3) := by decide +kernel
theorem dX5_findFrom_29 : decode cX5_findFrom 29 = .ok (.aload_n 0, 1) := by decide +kernel
theorem dX5_findFrom_30 : decode cX5_findFrom 30 = .ok (.iload_n 1, 1) := by decide +kernel
theorem dX5_findFrom_31 : decode cX5_findFrom 31 = .ok (.iload_n 2, 1) := by decide +kernel
theorem dX5_findFrom_32 : decode cX5_findFrom 32 = .ok (.invokevirtual 50, 3) := by decide +kernel
theorem dX5_findFrom_35 : decode cX5_findFrom 35 = .ok (.ifCond .eq 28, 3) := by decide +kernel
theorem dX5_findFrom_38 : decode cX5_findFrom 38 = .ok (.aload_n 0, 1) := by decide +kernel
theorem dX5_findFrom_39 : decode cX5_findFrom 39 = .ok (.getfield 9, 3) := by decide +kernel
theorem dX5_findFrom_42 : decode cX5_findFrom 42 = .ok (.iload_n 1, 1) := by decide +kernel
theorem dX5_findFrom_43 : decode cX5_findFrom 43 = .ok (.iload_n 2, 1) := by decide +kernel
theorem dX5_findFrom_44 : decode cX5_findFrom 44 = .ok (.iastore, 1) := by decide +kernel
theorem dX5_findFrom_45 : decode cX5_findFrom 45 = .ok (.aload_n 0, 1) := by decide +kernel
theorem dX5_findFrom_46 : decode cX5_findFrom 46 = .ok (.iload_n 1, 1) := by decide +kernel
theorem dX5_findFrom_47 : decode cX5_findFrom 47 = .ok (.iload_n 2, 1) := by decide +kernel
theorem dX5_findFrom_48 : decode cX5_findFrom 48 = .ok (.invokevirtual 54, 3) := by decide +kernel
theorem dX5_findFrom_51 : decode cX5_findFrom 51 = .ok (.aload_n 0, 1) := by decide +kernel
theorem dX5_findFrom_52 : decode cX5_findFrom 52 = .ok (.iload_n 1, 1) := by decide +kernel
theorem dX5_findFrom_53 : decode cX5_findFrom 53 = .ok (.iconst 1, 1) := by decide +kernel
theorem dX5_findFrom_54 : decode cX5_findFrom 54 = .ok (.iadd, 1) := by decide +kernel
theorem dX5_findFrom_55 : decode cX5_findFrom 55 = .ok (.invokevirtual 33, 3) := by decide +kernel
theorem dX5_findFrom_58 : decode cX5_findFrom 58 = .ok (.ifCond .eq 5, 3) := by decide +kernel
theorem dX5_findFrom_61 : decode cX5_findFrom 61 = .ok (.iconst 1, 1) := by decide +kernel
theorem dX5_findFrom_62 : decode cX5_findFrom 62 = .ok (.ireturn, 1) := by decide +kernel
theorem dX5_findFrom_63 : decode cX5_findFrom 63 = .ok (.iinc 2 1, 3) := by decide +kernel
theorem dX5_findFrom_66 : decode cX5_findFrom 66 = .ok (.goto (-48), 3) := by decide +kernel
theorem dX5_findFrom_69 : decode cX5_findFrom 69 = .ok (.iconst 0, 1) := by decide +kernel
theorem dX5_findFrom_70 : decode cX5_findFrom 70 = .ok (.ireturn, 1) := by decide +kernel
set_option maxRecDepth 20000 in
theorem ggX5_follow_X5_begin : GoodIn wsX5_follow wsX5_begin := goodIn_r _ [8, 9, 10, 1, 11, 12, 13, 14, 15, 16, 17, 18, 19, 20, 21, 22, 49, 50, 51, 52, 53, 54, 55, 56, 57, 58, 59, 60, 61, 62, 63] (by decide +kernel) (by decide +kernel)
set_option maxRecDepth 20000 in
theorem gX5_follow_X5_begin : GoodIn wsX5_follow (wsV RX5 30 RX5 yX5_begin wsX5_begin) := goodIn_app (goodIn_of _ (by decide +kernel)) ggX5_follow_X5_begin
set_option maxRecDepth 20000 in
theorem ggX5_follow_X5_canUse : GoodIn wsX5_follow wsX5_canUse := goodIn_r _ [26, 1, 27, 10, 9, 28, 12, 29, 30, 31, 32, 33, 20, 34, 35, 17, 18, 19, 21, 22, 36, 37, 38, 49, 50, 51, 52, 53, 54, 55, 56, 57, 58, 59, 60, 61, 62, 63] (by decide +kernel) (by decide +kernel)
set_option maxRecDepth 20000 in
theorem gX5_follow_X5_canUse : GoodIn wsX5_follow (wsV RX5 50 RX5 yX5_canUse wsX5_canUse) := goodIn_app (goodIn_of _ (by decide +kernel)) ggX5_follow_X5_canUse
set_option maxRecDepth 20000 in
theorem ggX5_follow_X5_use : GoodIn wsX5_follow wsX5_use := goodIn_r _ [42, 1, 27, 9, 12, 13, 14, 15, 16, 43, 30, 10, 44, 17, 18, 19, 20, 21, 22, 49, 50, 51, 52, 53, 54, 55, 56, 57, 58, 59, 60, 61, 62, 63] (by decide +kernel) (by decide +kernel)
set_option maxRecDepth 20000 in
theorem gX5_follow_X5_use : GoodIn wsX5_follow (wsV RX5 54 RX5 yX5_use wsX5_use) := goodIn_app (goodIn_of _ (by decide +kernel)) ggX5_follow_X5_use
set_option maxRecDepth 20000 in
theorem ggX5_follow_X5_accepts : GoodIn wsX5_follow wsX5_accepts := goodIn_r _ [48, 10, 1, 2, 31, 32, 33, 20, 34, 35, 49, 50, 51, 52, 53, 54, 55, 56, 57, 58, 59, 60, 61, 62, 63] (by decide +kernel) (by decide +kernel)
set_option maxRecDepth 20000 in
theorem gX5_follow_X5_accepts : GoodIn wsX5_follow (wsV RX5 43 RX5 yX5_accepts wsX5_accepts) := goodIn_app (goodIn_of _ (by decide +kernel)) ggX5_follow_X5_accepts
theorem dX5_follow_0 : decode cX5_follow 0 = .ok (.aload_n 0, 1) := by decide +kernel
theorem dX5_follow_1 : decode cX5_follow 1 = .ok (.invokevirtual 30, 3) := by decide +kernel
theorem dX5_follow_4 : decode cX5_follow 4 = .ok (.iconst 0, 1) := by decide +kernel
theorem dX5_follow_5 : decode cX5_follow 5 = .ok (.istore_n 1, 1) := by decide +kernel
theorem dX5_follow_6 : decode cX5_follow 6 = .ok (.iload_n 1, 1) := by decide +kernel
theorem dX5_follow_7 : decode cX5_follow 7 = .ok (.aload_n 0, 1) := by decide +kernel
theorem dX5_follow_8 : decode cX5_follow 8 = .ok (.getfield 26, 3) := by decide +kernel
theorem dX5_follow_11 : decode cX5_follow 11 = .ok (.getfield 37, 3) := by decide +kernel
theorem dX5_follow_14 : decode cX5_follow 14 = .ok (.if_icmp .ge 36, 3) := by decide +kernel
theorem dX5_follow_17 : decode cX5_follow 17 = .ok (.aload_n 0, 1) := by decide +kernel
theorem dX5_follow_18 : decode cX5_follow 18 = .ok (.iload_n 1, 1) := by decide +kernel
theorem dX5_follow_19 : decode cX5_follow 19 = .ok (.aload_n 0, 1) := by decide +kernel
theorem dX5_follow_20 : decode cX5_follow 20 = .ok (.getfield 9, 3) := by decide +kernel
theorem dX5_follow_23 : decode cX5_follow 23 = .ok (.iload_n 1, 1) := by decide +kernel
theorem dX5_follow_24 : decode cX5_follow 24 = .ok (.iaload, 1) := by decide +kernel
theorem dX5_follow_25 : decode cX5_follow 25 = .ok (.invokevirtual 50, 3) := by decide +kernel
theorem dX5_follow_28 : decode cX5_follow 28 = .ok (.ifCond .ne 5, 3) := by decide +kernel
theorem dX5_follow_31 : decode cX5_follow 31 = .ok (.iconst 0, 1) := by decide +kernel
theorem dX5_follow_32 : decode cX5_follow 32 = .ok (.ireturn, 1) := by decide +kernel
theorem dX5_follow_33 : decode cX5_follow 33 = .ok (.aload_n 0, 1) := by decide +kernel
theorem dX5_follow_34 : decode cX5_follow 34 = .ok (.iload_n 1, 1) := by decide +kernel
theorem dX5_follow_35 : decode cX5_follow 35 = .ok (.aload_n 0, 1) := by decide +kernel
theorem dX5_follow_36 : decode cX5_follow 36 = .ok (.getfield 9, 3) := by decide +kernel
theorem dX5_follow_39 : decode cX5_follow 39 = .ok (.iload_n 1, 1) := by decide +kernel
theorem dX5_follow_40 : decode cX5_follow 40 = .ok (.iaload, 1) := by decide +kernel
theorem dX5_follow_41 : decode cX5_follow 41 = .ok (.invokevirtual 54, 3) := by decide +kernel
theorem dX5_follow_44 : decode cX5_follow 44 = .ok (.iinc 1 1, 3) := by decide +kernel
theorem dX5_follow_47 : decode cX5_follow 47 = .ok (.goto (-41), 3) := by decide +kernel
theorem dX5_follow_50 : decode cX5_follow 50 = .ok (.aload_n 0, 1) := by decide +kernel
theorem dX5_follow_51 : decode cX5_follow 51 = .ok (.invokevirtual 43, 3) := by decide +kernel
theorem dX5_follow_54 : decode cX5_follow 54 = .ok (.ireturn, 1) := by decide +kernel
set_option maxRecDepth 20000 in
theorem ggX5_begin_X3_cells : GoodIn wsX5_begin wsX3_cells := goodIn_r _ [14, 15, 21, 22, 23, 24, 25, 26, 27, 28, 29, 30] (by decide +kernel) (by decide +kernel)
set_option maxRecDepth 20000 in
theorem gX5_begin_X3_cells : GoodIn wsX5_begin (wsV RX5 61 RX3 yX3_cells wsX3_cells) := goodIn_app (goodIn_of _ (by decide +kernel)) ggX5_begin_X3_cells
theorem dX5_begin_0 : decode cX5_begin 0 = .ok (.aload_n 0, 1) := by decide +kernel
theorem dX5_begin_1 : decode cX5_begin 1 = .ok (.getfield 15, 3) := by decide +kernel
theorem dX5_begin_4 : decode cX5_begin 4 = .ok (.iconst 0, 1) := by decide +kernel
theorem dX5_begin_5 : decode cX5_begin 5 = .ok (.iconst 0, 1) := by decide +kernel
theorem dX5_begin_6 : decode cX5_begin 6 = .ok (.iastore, 1) := by decide +kernel
theorem dX5_begin_7 : decode cX5_begin 7 = .ok (.aload_n 0, 1) := by decide +kernel
theorem dX5_begin_8 : decode cX5_begin 8 = .ok (.getfield 18, 3) := by decide +kernel
theorem dX5_begin_11 : decode cX5_begin 11 = .ok (.iconst 0, 1) := by decide +kernel
theorem dX5_begin_12 : decode cX5_begin 12 = .ok (.iconst 0, 1) := by decide +kernel
theorem dX5_begin_13 : decode cX5_begin 13 = .ok (.iastore, 1) := by decide +kernel
theorem dX5_begin_14 : decode cX5_begin 14 = .ok (.aload_n 0, 1) := by decide +kernel
theorem dX5_begin_15 : decode cX5_begin 15 = .ok (.getfield 26, 3) := by decide +kernel
theorem dX5_begin_18 : decode cX5_begin 18 = .ok (.getfield 58, 3) := by decide +kernel
theorem dX5_begin_21 : decode cX5_begin 21 = .ok (.iconst 0, 1) := by decide +kernel
theorem dX5_begin_22 : decode cX5_begin 22 = .ok (.aload_n 0, 1) := by decide +kernel
theorem dX5_begin_23 : decode cX5_begin 23 = .ok (.getfield 23, 3) := by decide +kernel
theorem dX5_begin_26 : decode cX5_begin 26 = .ok (.iconst 0, 1) := by decide +kernel
theorem dX5_begin_27 : decode cX5_begin 27 = .ok (.aaload, 1) := by decide +kernel
theorem dX5_begin_28 : decode cX5_begin 28 = .ok (.iconst 0, 1) := by decide +kernel
theorem dX5_begin_29 : decode cX5_begin 29 = .ok (.aload_n 0, 1) := by decide +kernel
theorem dX5_begin_30 : decode cX5_begin 30 = .ok (.getfield 26, 3) := by decide +kernel
theorem dX5_begin_33 : decode cX5_begin 33 = .ok (.invokevirtual 61, 3) := by decide +kernel
theorem dX5_begin_36 : decode cX5_begin 36 = .ok (.invokestatic 64, 3) := by decide +kernel
theorem dX5_begin_39 : decode cX5_begin 39 = .ok (.return_, 1) := by decide +kernel
set_option maxRecDepth 20000 in
theorem ggX5_canUse_X3_accept : GoodIn wsX5_canUse wsX3_accept := goodIn_r _ [13, 14, 28, 29, 30, 31, 32, 33, 34, 35, 36, 37] (by decide +kernel) (by decide +kernel)
set_option maxRecDepth 20000 in
theorem gX5_canUse_X3_accept : GoodIn wsX5_canUse (wsV RX5 70 RX3 yX3_accept wsX3_accept) := goodIn_app (goodIn_of _ (by decide +kernel)) ggX5_canUse_X3_accept
set_option maxRecDepth 20000 in
theorem ggX5_canUse_X3_cells : GoodIn wsX5_canUse wsX3_cells := goodIn_r _ [18, 19, 28, 29, 30, 31, 32, 33, 34, 35, 36, 37] (by decide +kernel) (by decide +kernel)
set_option maxRecDepth 20000 in
theorem gX5_canUse_X3_cells : GoodIn wsX5_canUse (wsV RX5 61 RX3 yX3_cells wsX3_cells) := goodIn_app (goodIn_of _ (by decide +kernel)) ggX5_canUse_X3_cells
set_option maxRecDepth 20000 in
theorem ggX5_canUse_X7_isIndex : GoodIn wsX5_canUse wsX7_isIndex := goodIn_r _ [22] (by decide +kernel) (by decide +kernel)
set_option maxRecDepth 20000 in
theorem gX5_canUse_X7_isIndex_n82 : GoodIn wsX5_canUse (wsX7_isIndex) := ggX5_canUse_X7_isIndex
theorem dX5_canUse_0 : decode cX5_canUse 0 = .ok (.iload_n 2, 1) := by decide +kernel
theorem dX5_canUse_1 : decode cX5_canUse 1 = .ok (.aload_n 0, 1) := by decide +kernel
theorem dX5_canUse_2 : decode cX5_canUse 2 = .ok (.getfield 26, 3) := by decide +kernel
theorem dX5_canUse_5 : decode cX5_canUse 5 = .ok (.getfield 47, 3) := by decide +kernel
theorem dX5_canUse_8 : decode cX5_canUse 8 = .ok (.if_icmp .ne 25, 3) := by decide +kernel
theorem dX5_canUse_11 : decode cX5_canUse 11 = .ok (.aload_n 0, 1) := by decide +kernel
theorem dX5_canUse_12 : decode cX5_canUse 12 = .ok (.getfield 18, 3) := by decide +kernel
theorem dX5_canUse_15 : decode cX5_canUse 15 = .ok (.iload_n 1, 1) := by decide +kernel
theorem dX5_canUse_16 : decode cX5_canUse 16 = .ok (.iaload, 1) := by decide +kernel
theorem dX5_canUse_17 : decode cX5_canUse 17 = .ok (.aload_n 0, 1) := by decide +kernel
theorem dX5_canUse_18 : decode cX5_canUse 18 = .ok (.getfield 26, 3) := by decide +kernel
theorem dX5_canUse_21 : decode cX5_canUse 21 = .ok (.invokevirtual 70, 3) := by decide +kernel
theorem dX5_canUse_24 : decode cX5_canUse 24 = .ok (.if_icmp .ne 7, 3) := by decide +kernel
theorem dX5_canUse_27 : decode cX5_canUse 27 = .ok (.iconst 1, 1) := by decide +kernel
theorem dX5_canUse_28 : decode cX5_canUse 28 = .ok (.goto 4, 3) := by decide +kernel
theorem dX5_canUse_31 : decode cX5_canUse 31 = .ok (.iconst 0, 1) := by decide +kernel
theorem dX5_canUse_32 : decode cX5_canUse 32 = .ok (.ireturn, 1) := by decide +kernel
theorem dX5_canUse_33 : decode cX5_canUse 33 = .ok (.aload_n 0, 1) := by decide +kernel
theorem dX5_canUse_34 : decode cX5_canUse 34 = .ok (.getfield 15, 3) := by decide +kernel
theorem dX5_canUse_37 : decode cX5_canUse 37 = .ok (.iload_n 1, 1) := by decide +kernel
theorem dX5_canUse_38 : decode cX5_canUse 38 = .ok (.iaload, 1) := by decide +kernel
theorem dX5_canUse_39 : decode cX5_canUse 39 = .ok (.istore_n 3, 1) := by decide +kernel
theorem dX5_canUse_40 : decode cX5_canUse 40 = .ok (.aload_n 0, 1) := by decide +kernel
theorem dX5_canUse_41 : decode cX5_canUse 41 = .ok (.getfield 18, 3) := by decide +kernel
theorem dX5_canUse_44 : decode cX5_canUse 44 = .ok (.iload_n 1, 1) := by decide +kernel
theorem dX5_canUse_45 : decode cX5_canUse 45 = .ok (.iaload, 1) := by decide +kernel
theorem dX5_canUse_46 : decode cX5_canUse 46 = .ok (.aload_n 0, 1) := by decide +kernel
theorem dX5_canUse_47 : decode cX5_canUse 47 = .ok (.getfield 26, 3) := by decide +kernel
theorem dX5_canUse_50 : decode cX5_canUse 50 = .ok (.getfield 73, 3) := by decide +kernel
theorem dX5_canUse_53 : decode cX5_canUse 53 = .ok (.iload_n 2, 1) := by decide +kernel
theorem dX5_canUse_54 : decode cX5_canUse 54 = .ok (.iaload, 1) := by decide +kernel
theorem dX5_canUse_55 : decode cX5_canUse 55 = .ok (.if_icmp .ne 51, 3) := by decide +kernel
theorem dX5_canUse_58 : decode cX5_canUse 58 = .ok (.aload_n 0, 1) := by decide +kernel
theorem dX5_canUse_59 : decode cX5_canUse 59 = .ok (.getfield 23, 3) := by decide +kernel
theorem dX5_canUse_62 : decode cX5_canUse 62 = .ok (.iload_n 1, 1) := by decide +kernel
theorem dX5_canUse_63 : decode cX5_canUse 63 = .ok (.aaload, 1) := by decide +kernel
theorem dX5_canUse_64 : decode cX5_canUse 64 = .ok (.iload_n 3, 1) := by decide +kernel
theorem dX5_canUse_65 : decode cX5_canUse 65 = .ok (.iaload, 1) := by decide +kernel
theorem dX5_canUse_66 : decode cX5_canUse 66 = .ok (.aload_n 0, 1) := by decide +kernel
theorem dX5_canUse_67 : decode cX5_canUse 67 = .ok (.getfield 26, 3) := by decide +kernel
theorem dX5_canUse_70 : decode cX5_canUse 70 = .ok (.getfield 76, 3) := by decide +kernel
theorem dX5_canUse_73 : decode cX5_canUse 73 = .ok (.iload_n 2, 1) := by decide +kernel
theorem dX5_canUse_74 : decode cX5_canUse 74 = .ok (.iaload, 1) := by decide +kernel
theorem dX5_canUse_75 : decode cX5_canUse 75 = .ok (.if_icmp .ne 31, 3) := by decide +kernel
theorem dX5_canUse_78 : decode cX5_canUse 78 = .ok (.iload_n 3, 1) := by decide +kernel
theorem dX5_canUse_79 : decode cX5_canUse 79 = .ok (.aload_n 0, 1) := by decide +kernel
theorem dX5_canUse_80 : decode cX5_canUse 80 = .ok (.getfield 26, 3) := by decide +kernel
theorem dX5_canUse_83 : decode cX5_canUse 83 = .ok (.getfield 79, 3) := by decide +kernel
theorem dX5_canUse_86 : decode cX5_canUse 86 = .ok (.iload_n 2, 1) := by decide +kernel
theorem dX5_canUse_87 : decode cX5_canUse 87 = .ok (.iaload, 1) := by decide +kernel
theorem dX5_canUse_88 : decode cX5_canUse 88 = .ok (.iadd, 1) := by decide +kernel
theorem dX5_canUse_89 : decode cX5_canUse 89 = .ok (.aload_n 0, 1) := by decide +kernel
theorem dX5_canUse_90 : decode cX5_canUse 90 = .ok (.getfield 26, 3) := by decide +kernel
theorem dX5_canUse_93 : decode cX5_canUse 93 = .ok (.invokevirtual 61, 3) := by decide +kernel
theorem dX5_canUse_96 : decode cX5_canUse 96 = .ok (.invokestatic 82, 3) := by decide +kernel
theorem dX5_canUse_99 : decode cX5_canUse 99 = .ok (.ifCond .eq 7, 3) := by decide +kernel
theorem dX5_canUse_102 : decode cX5_canUse 102 = .ok (.iconst 1, 1) := by decide +kernel
theorem dX5_canUse_103 : decode cX5_canUse 103 = .ok (.goto 4, 3) := by decide +kernel
theorem dX5_canUse_106 : decode cX5_canUse 106 = .ok (.iconst 0, 1) := by decide +kernel
theorem dX5_canUse_107 : decode cX5_canUse 107 = .ok (.ireturn, 1) := by decide +kernel
set_option maxRecDepth 20000 in
theorem ggX5_use_X3_cells : GoodIn wsX5_use wsX3_cells := goodIn_r _ [17, 18, 24, 25, 26, 27, 28, 29, 30, 31, 32, 33] (by decide +kernel) (by decide +kernel)
set_option maxRecDepth 20000 in
theorem gX5_use_X3_cells : GoodIn wsX5_use (wsV RX5 61 RX3 yX3_cells wsX3_cells) := goodIn_app (goodIn_of _ (by decide +kernel)) ggX5_use_X3_cells
theorem dX5_use_0 : decode cX5_use 0 = .ok (.iload_n 2, 1) := by decide +kernel
theorem dX5_use_1 : decode cX5_use 1 = .ok (.aload_n 0, 1) := by decide +kernel
theorem dX5_use_2 : decode cX5_use 2 = .ok (.getfield 26, 3) := by decide +kernel
theorem dX5_use_5 : decode cX5_use 5 = .ok (.getfield 47, 3) := by decide +kernel
theorem dX5_use_8 : decode cX5_use 8 = .ok (.if_icmp .ne 7, 3) := by decide +kernel
theorem dX5_use_11 : decode cX5_use 11 = .ok (.iconst 1, 1) := by decide +kernel
theorem dX5_use_12 : decode cX5_use 12 = .ok (.goto 4, 3) := by decide +kernel
theorem dX5_use_15 : decode cX5_use 15 = .ok (.iconst 0, 1) := by decide +kernel
theorem dX5_use_16 : decode cX5_use 16 = .ok (.istore_n 3, 1) := by decide +kernel
theorem dX5_use_17 : decode cX5_use 17 = .ok (.aload_n 0, 1) := by decide +kernel
theorem dX5_use_18 : decode cX5_use 18 = .ok (.getfield 15, 3) := by decide +kernel
theorem dX5_use_21 : decode cX5_use 21 = .ok (.iload_n 1, 1) := by decide +kernel
theorem dX5_use_22 : decode cX5_use 22 = .ok (.iaload, 1) := by decide +kernel
theorem dX5_use_23 : decode cX5_use 23 = .ok (.istore 4, 2) := by decide +kernel
theorem dX5_use_25 : decode cX5_use 25 = .ok (.aload_n 0, 1) := by decide +kernel
theorem dX5_use_26 : decode cX5_use 26 = .ok (.getfield 23, 3) := by decide +kernel
theorem dX5_use_29 : decode cX5_use 29 = .ok (.iload_n 1, 1) := by decide +kernel
theorem dX5_use_30 : decode cX5_use 30 = .ok (.aaload, 1) := by decide +kernel
theorem dX5_use_31 : decode cX5_use 31 = .ok (.iconst 0, 1) := by decide +kernel
theorem dX5_use_32 : decode cX5_use 32 = .ok (.aload_n 0, 1) := by decide +kernel
theorem dX5_use_33 : decode cX5_use 33 = .ok (.getfield 23, 3) := by decide +kernel
theorem dX5_use_36 : decode cX5_use 36 = .ok (.iload_n 1, 1) := by decide +kernel
theorem dX5_use_37 : decode cX5_use 37 = .ok (.iconst 1, 1) := by decide +kernel
theorem dX5_use_38 : decode cX5_use 38 = .ok (.iadd, 1) := by decide +kernel
theorem dX5_use_39 : decode cX5_use 39 = .ok (.aaload, 1) := by decide +kernel
theorem dX5_use_40 : decode cX5_use 40 = .ok (.iconst 0, 1) := by decide +kernel
theorem dX5_use_41 : decode cX5_use 41 = .ok (.aload_n 0, 1) := by decide +kernel
theorem dX5_use_42 : decode cX5_use 42 = .ok (.getfield 26, 3) := by decide +kernel
theorem dX5_use_45 : decode cX5_use 45 = .ok (.invokevirtual 61, 3) := by decide +kernel
theorem dX5_use_48 : decode cX5_use 48 = .ok (.invokestatic 64, 3) := by decide +kernel
theorem dX5_use_51 : decode cX5_use 51 = .ok (.iload_n 3, 1) := by decide +kernel
theorem dX5_use_52 : decode cX5_use 52 = .ok (.ifCond .ne 23, 3) := by decide +kernel
theorem dX5_use_55 : decode cX5_use 55 = .ok (.aload_n 0, 1) := by decide +kernel
theorem dX5_use_56 : decode cX5_use 56 = .ok (.getfield 23, 3) := by decide +kernel
theorem dX5_use_59 : decode cX5_use 59 = .ok (.iload_n 1, 1) := by decide +kernel
theorem dX5_use_60 : decode cX5_use 60 = .ok (.iconst 1, 1) := by decide +kernel
theorem dX5_use_61 : decode cX5_use 61 = .ok (.iadd, 1) := by decide +kernel
theorem dX5_use_62 : decode cX5_use 62 = .ok (.aaload, 1) := by decide +kernel
theorem dX5_use_63 : decode cX5_use 63 = .ok (.iload 4, 2) := by decide +kernel
theorem dX5_use_65 : decode cX5_use 65 = .ok (.aload_n 0, 1) := by decide +kernel
theorem dX5_use_66 : decode cX5_use 66 = .ok (.getfield 26, 3) := by decide +kernel
theorem dX5_use_69 : decode cX5_use 69 = .ok (.getfield 85, 3) := by decide +kernel
theorem dX5_use_72 : decode cX5_use 72 = .ok (.iload_n 2, 1) := by decide +kernel
theorem dX5_use_73 : decode cX5_use 73 = .ok (.iaload, 1) := by decide +kernel
theorem dX5_use_74 : decode cX5_use 74 = .ok (.iastore, 1) := by decide +kernel
theorem dX5_use_75 : decode cX5_use 75 = .ok (.aload_n 0, 1) := by decide +kernel
theorem dX5_use_76 : decode cX5_use 76 = .ok (.getfield 15, 3) := by decide +kernel
theorem dX5_use_79 : decode cX5_use 79 = .ok (.iload_n 1, 1) := by decide +kernel
theorem dX5_use_80 : decode cX5_use 80 = .ok (.iconst 1, 1) := by decide +kernel
theorem dX5_use_81 : decode cX5_use 81 = .ok (.iadd, 1) := by decide +kernel
theorem dX5_use_82 : decode cX5_use 82 = .ok (.iload_n 3, 1) := by decide +kernel
theorem dX5_use_83 : decode cX5_use 83 = .ok (.ifCond .eq 8, 3) := by decide +kernel
theorem dX5_use_86 : decode cX5_use 86 = .ok (.iload 4, 2) := by decide +kernel
theorem dX5_use_88 : decode cX5_use 88 = .ok (.goto 15, 3) := by decide +kernel
theorem dX5_use_91 : decode cX5_use 91 = .ok (.iload 4, 2) := by decide +kernel
theorem dX5_use_93 : decode cX5_use 93 = .ok (.aload_n 0, 1) := by decide +kernel
theorem dX5_use_94 : decode cX5_use 94 = .ok (.getfield 26, 3) := by decide +kernel
theorem dX5_use_97 : decode cX5_use 97 = .ok (.getfield 79, 3) := by decide +kernel
theorem dX5_use_100 : decode cX5_use 100 = .ok (.iload_n 2, 1) := by decide +kernel
theorem dX5_use_101 : decode cX5_use 101 = .ok (.iaload, 1) := by decide +kernel
theorem dX5_use_102 : decode cX5_use 102 = .ok (.iadd, 1) := by decide +kernel
theorem dX5_use_103 : decode cX5_use 103 = .ok (.iastore, 1) := by decide +kernel
theorem dX5_use_104 : decode cX5_use 104 = .ok (.aload_n 0, 1) := by decide +kernel
theorem dX5_use_105 : decode cX5_use 105 = .ok (.getfield 18, 3) := by decide +kernel
theorem dX5_use_108 : decode cX5_use 108 = .ok (.iload_n 1, 1) := by decide +kernel
theorem dX5_use_109 : decode cX5_use 109 = .ok (.iconst 1, 1) := by decide +kernel
theorem dX5_use_110 : decode cX5_use 110 = .ok (.iadd, 1) := by decide +kernel
theorem dX5_use_111 : decode cX5_use 111 = .ok (.iload_n 3, 1) := by decide +kernel
theorem dX5_use_112 : decode cX5_use 112 = .ok (.ifCond .eq 12, 3) := by decide +kernel
theorem dX5_use_115 : decode cX5_use 115 = .ok (.aload_n 0, 1) := by decide +kernel
theorem dX5_use_116 : decode cX5_use 116 = .ok (.getfield 18, 3) := by decide +kernel
theorem dX5_use_119 : decode cX5_use 119 = .ok (.iload_n 1, 1) := by decide +kernel
theorem dX5_use_120 : decode cX5_use 120 = .ok (.iaload, 1) := by decide +kernel
theorem dX5_use_121 : decode cX5_use 121 = .ok (.goto 12, 3) := by decide +kernel
theorem dX5_use_124 : decode cX5_use 124 = .ok (.aload_n 0, 1) := by decide +kernel
theorem dX5_use_125 : decode cX5_use 125 = .ok (.getfield 26, 3) := by decide +kernel
theorem dX5_use_128 : decode cX5_use 128 = .ok (.getfield 88, 3) := by decide +kernel
theorem dX5_use_131 : decode cX5_use 131 = .ok (.iload_n 2, 1) := by decide +kernel
theorem dX5_use_132 : decode cX5_use 132 = .ok (.iaload, 1) := by decide +kernel
theorem dX5_use_133 : decode cX5_use 133 = .ok (.iastore, 1) := by decide +kernel
theorem dX5_use_134 : decode cX5_use 134 = .ok (.return_, 1) := by decide +kernel
set_option maxRecDepth 20000 in
theorem ggX5_accepts_X3_accept : GoodIn wsX5_accepts wsX3_accept := goodIn_r _ [8, 9, 15, 16, 17, 18, 19, 20, 21, 22, 23, 24] (by decide +kernel) (by decide +kernel)
set_option maxRecDepth 20000 in
theorem gX5_accepts_X3_accept : GoodIn wsX5_accepts (wsV RX5 70 RX3 yX3_accept wsX3_accept) := goodIn_app (goodIn_of _ (by decide +kernel)) ggX5_accepts_X3_accept
theorem dX5_accepts_0 : decode cX5_accepts 0 = .ok (.aload_n 0, 1) := by decide +kernel
theorem dX5_accepts_1 : decode cX5_accepts 1 = .ok (.getfield 18, 3) := by decide +kernel
theorem dX5_accepts_4 : decode cX5_accepts 4 = .ok (.aload_n 0, 1) := by decide +kernel
theorem dX5_accepts_5 : decode cX5_accepts 5 = .ok (.getfield 26, 3) := by decide +kernel
theorem dX5_accepts_8 : decode cX5_accepts 8 = .ok (.getfield 37, 3) := by decide +kernel
theorem dX5_accepts_11 : decode cX5_accepts 11 = .ok (.iaload, 1) := by decide +kernel
theorem dX5_accepts_12 : decode cX5_accepts 12 = .ok (.aload_n 0, 1) := by decide +kernel
theorem dX5_accepts_13 : decode cX5_accepts 13 = .ok (.getfield 26, 3) := by decide +kernel
theorem dX5_accepts_16 : decode cX5_accepts 16 = .ok (.invokevirtual 70, 3) := by decide +kernel
theorem dX5_accepts_19 : decode cX5_accepts 19 = .ok (.if_icmp .ne 7, 3) := by decide +kernel
theorem dX5_accepts_22 : decode cX5_accepts 22 = .ok (.iconst 1, 1) := by decide +kernel
theorem dX5_accepts_23 : decode cX5_accepts 23 = .ok (.goto 4, 3) := by decide +kernel
theorem dX5_accepts_26 : decode cX5_accepts 26 = .ok (.iconst 0, 1) := by decide +kernel
theorem dX5_accepts_27 : decode cX5_accepts 27 = .ok (.ireturn, 1) := by decide +kernel
theorem dX6_init_0 : decode cX6_init 0 = .ok (.aload_n 0, 1) := by decide +kernel
theorem dX6_init_1 : decode cX6_init 1 = .ok (.invokespecial 1, 3) := by decide +kernel
theorem dX6_init_4 : decode cX6_init 4 = .ok (.aload_n 0, 1) := by decide +kernel
theorem dX6_init_5 : decode cX6_init 5 = .ok (.iconst 0, 1) := by decide +kernel
theorem dX6_init_6 : decode cX6_init 6 = .ok (.newarray .int, 2) := by decide +kernel
theorem dX6_init_8 : decode cX6_init 8 = .ok (.putfield 7, 3) := by decide +kernel
theorem dX6_init_11 : decode cX6_init 11 = .ok (.aload_n 0, 1) := by decide +kernel
theorem dX6_init_12 : decode cX6_init 12 = .ok (.iconst 0, 1) := by decide +kernel
theorem dX6_init_13 : decode cX6_init 13 = .ok (.newarray .int, 2) := by decide +kernel
theorem dX6_init_15 : decode cX6_init 15 = .ok (.putfield 13, 3) := by decide +kernel
theorem dX6_init_18 : decode cX6_init 18 = .ok (.aload_n 0, 1) := by decide +kernel
theorem dX6_init_19 : decode cX6_init 19 = .ok (.iconst 0, 1) := by decide +kernel
theorem dX6_init_20 : decode cX6_init 20 = .ok (.newarray .int, 2) := by decide +kernel
theorem dX6_init_22 : decode cX6_init 22 = .ok (.putfield 16, 3) := by decide +kernel
theorem dX6_init_25 : decode cX6_init 25 = .ok (.aload_n 0, 1) := by decide +kernel
theorem dX6_init_26 : decode cX6_init 26 = .ok (.aload_n 1, 1) := by decide +kernel
theorem dX6_init_27 : decode cX6_init 27 = .ok (.putfield 19, 3) := by decide +kernel
theorem dX6_init_30 : decode cX6_init 30 = .ok (.return_, 1) := by decide +kernel
set_option maxRecDepth 20000 in
theorem ggX6_lay_X7_roomFor : GoodIn wsX6_lay wsX7_roomFor := goodIn_r _ [9, 10, 11, 12, 13, 14] (by decide +kernel) (by decide +kernel)
set_option maxRecDepth 20000 in
theorem gX6_lay_X7_roomFor_n29 : GoodIn wsX6_lay (wsX7_roomFor) := ggX6_lay_X7_roomFor
set_option maxRecDepth 20000 in
theorem ggX6_lay_X2_firstSelector : GoodIn wsX6_lay wsX2_firstSelector := goodIn_r _ [19, 20, 39, 40, 41, 42, 43, 44, 45, 46, 47] (by decide +kernel) (by decide +kernel)
set_option maxRecDepth 20000 in
theorem gX6_lay_X2_firstSelector : GoodIn wsX6_lay (wsV RX6 41 RX2 yX2_firstSelector wsX2_firstSelector) := goodIn_app (goodIn_of _ (by decide +kernel)) ggX6_lay_X2_firstSelector
set_option maxRecDepth 20000 in
theorem ggX6_lay_X6_layCities : GoodIn wsX6_lay wsX6_layCities := goodIn_r _ [25, 1, 33, 34, 35, 36, 37, 38] (by decide +kernel) (by decide +kernel)
set_option maxRecDepth 20000 in
theorem gX6_lay_X6_layCities : GoodIn wsX6_lay (wsV RX6 48 RX6 yX6_layCities wsX6_layCities) := goodIn_app (goodIn_of _ (by decide +kernel)) ggX6_lay_X6_layCities
set_option maxRecDepth 20000 in
theorem ggX6_lay_X6_layVertex : GoodIn wsX6_lay wsX6_layVertex := goodIn_r _ [29, 2, 30, 31, 32, 21, 22, 23, 24, 25, 1, 33, 34, 35, 36, 37, 38, 39, 40, 41, 42, 43, 44, 45, 46, 47] (by decide +kernel) (by decide +kernel)
set_option maxRecDepth 20000 in
theorem gX6_lay_X6_layVertex : GoodIn wsX6_lay (wsV RX6 52 RX6 yX6_layVertex wsX6_layVertex) := goodIn_app (goodIn_of _ (by decide +kernel)) ggX6_lay_X6_layVertex
theorem dX6_lay_0 : decode cX6_lay 0 = .ok (.aload_n 0, 1) := by decide +kernel
theorem dX6_lay_1 : decode cX6_lay 1 = .ok (.aload_n 0, 1) := by decide +kernel
theorem dX6_lay_2 : decode cX6_lay 2 = .ok (.getfield 13, 3) := by decide +kernel
theorem dX6_lay_5 : decode cX6_lay 5 = .ok (.aload_n 0, 1) := by decide +kernel
theorem dX6_lay_6 : decode cX6_lay 6 = .ok (.getfield 19, 3) := by decide +kernel
theorem dX6_lay_9 : decode cX6_lay 9 = .ok (.getfield 23, 3) := by decide +kernel
theorem dX6_lay_12 : decode cX6_lay 12 = .ok (.invokestatic 29, 3) := by decide +kernel
theorem dX6_lay_15 : decode cX6_lay 15 = .ok (.putfield 13, 3) := by decide +kernel
theorem dX6_lay_18 : decode cX6_lay 18 = .ok (.aload_n 0, 1) := by decide +kernel
theorem dX6_lay_19 : decode cX6_lay 19 = .ok (.iconst 0, 1) := by decide +kernel
theorem dX6_lay_20 : decode cX6_lay 20 = .ok (.putfield 35, 3) := by decide +kernel
theorem dX6_lay_23 : decode cX6_lay 23 = .ok (.aload_n 0, 1) := by decide +kernel
theorem dX6_lay_24 : decode cX6_lay 24 = .ok (.iconst 1, 1) := by decide +kernel
theorem dX6_lay_25 : decode cX6_lay 25 = .ok (.putfield 38, 3) := by decide +kernel
theorem dX6_lay_28 : decode cX6_lay 28 = .ok (.iconst 0, 1) := by decide +kernel
theorem dX6_lay_29 : decode cX6_lay 29 = .ok (.istore_n 2, 1) := by decide +kernel
theorem dX6_lay_30 : decode cX6_lay 30 = .ok (.aload_n 0, 1) := by decide +kernel
theorem dX6_lay_31 : decode cX6_lay 31 = .ok (.getfield 19, 3) := by decide +kernel
theorem dX6_lay_34 : decode cX6_lay 34 = .ok (.invokevirtual 41, 3) := by decide +kernel
theorem dX6_lay_37 : decode cX6_lay 37 = .ok (.istore_n 3, 1) := by decide +kernel
theorem dX6_lay_38 : decode cX6_lay 38 = .ok (.iconst 0, 1) := by decide +kernel
theorem dX6_lay_39 : decode cX6_lay 39 = .ok (.istore 4, 2) := by decide +kernel
theorem dX6_lay_41 : decode cX6_lay 41 = .ok (.iload 4, 2) := by decide +kernel
theorem dX6_lay_43 : decode cX6_lay 43 = .ok (.aload_n 0, 1) := by decide +kernel
theorem dX6_lay_44 : decode cX6_lay 44 = .ok (.getfield 19, 3) := by decide +kernel
theorem dX6_lay_47 : decode cX6_lay 47 = .ok (.getfield 45, 3) := by decide +kernel
theorem dX6_lay_50 : decode cX6_lay 50 = .ok (.if_icmp .ge 37, 3) := by decide +kernel
theorem dX6_lay_53 : decode cX6_lay 53 = .ok (.aload_n 1, 1) := by decide +kernel
theorem dX6_lay_54 : decode cX6_lay 54 = .ok (.iload 4, 2) := by decide +kernel
theorem dX6_lay_56 : decode cX6_lay 56 = .ok (.iaload, 1) := by decide +kernel
theorem dX6_lay_57 : decode cX6_lay 57 = .ok (.iconst 1, 1) := by decide +kernel
theorem dX6_lay_58 : decode cX6_lay 58 = .ok (.if_icmp .ne 23, 3) := by decide +kernel
theorem dX6_lay_61 : decode cX6_lay 61 = .ok (.aload_n 0, 1) := by decide +kernel
theorem dX6_lay_62 : decode cX6_lay 62 = .ok (.iload_n 2, 1) := by decide +kernel
theorem dX6_lay_63 : decode cX6_lay 63 = .ok (.iload_n 3, 1) := by decide +kernel
theorem dX6_lay_64 : decode cX6_lay 64 = .ok (.iconst 1, 1) := by decide +kernel
theorem dX6_lay_65 : decode cX6_lay 65 = .ok (.invokevirtual 48, 3) := by decide +kernel
theorem dX6_lay_68 : decode cX6_lay 68 = .ok (.istore_n 2, 1) := by decide +kernel
theorem dX6_lay_69 : decode cX6_lay 69 = .ok (.iinc 3 1, 3) := by decide +kernel
theorem dX6_lay_72 : decode cX6_lay 72 = .ok (.aload_n 0, 1) := by decide +kernel
theorem dX6_lay_73 : decode cX6_lay 73 = .ok (.iload_n 2, 1) := by decide +kernel
theorem dX6_lay_74 : decode cX6_lay 74 = .ok (.iload 4, 2) := by decide +kernel
theorem dX6_lay_76 : decode cX6_lay 76 = .ok (.aload_n 1, 1) := by decide +kernel
theorem dX6_lay_77 : decode cX6_lay 77 = .ok (.invokevirtual 52, 3) := by decide +kernel
theorem dX6_lay_80 : decode cX6_lay 80 = .ok (.istore_n 2, 1) := by decide +kernel
theorem dX6_lay_81 : decode cX6_lay 81 = .ok (.iinc 4 1, 3) := by decide +kernel
theorem dX6_lay_84 : decode cX6_lay 84 = .ok (.goto (-43), 3) := by decide +kernel
theorem dX6_lay_87 : decode cX6_lay 87 = .ok (.return_, 1) := by decide +kernel
set_option maxRecDepth 20000 in
theorem ggX6_layVertex_X6_layCities : GoodIn wsX6_layVertex wsX6_layCities := goodIn_r _ [9, 10, 11, 12, 13, 14, 15, 16] (by decide +kernel) (by decide +kernel)
set_option maxRecDepth 20000 in
theorem gX6_layVertex_X6_layCities : GoodIn wsX6_layVertex (wsV RX6 48 RX6 yX6_layCities wsX6_layCities) := goodIn_app (goodIn_of _ (by decide +kernel)) ggX6_layVertex_X6_layCities
theorem dX6_layVertex_0 : decode cX6_layVertex 0 = .ok (.iload_n 1, 1) := by decide +kernel
theorem dX6_layVertex_1 : decode cX6_layVertex 1 = .ok (.istore 4, 2) := by decide +kernel
theorem dX6_layVertex_3 : decode cX6_layVertex 3 = .ok (.aload_n 0, 1) := by decide +kernel
theorem dX6_layVertex_4 : decode cX6_layVertex 4 = .ok (.getfield 19, 3) := by decide +kernel
theorem dX6_layVertex_7 : decode cX6_layVertex 7 = .ok (.getfield 56, 3) := by decide +kernel
theorem dX6_layVertex_10 : decode cX6_layVertex 10 = .ok (.iload_n 2, 1) := by decide +kernel
theorem dX6_layVertex_11 : decode cX6_layVertex 11 = .ok (.iaload, 1) := by decide +kernel
theorem dX6_layVertex_12 : decode cX6_layVertex 12 = .ok (.istore 5, 2) := by decide +kernel
theorem dX6_layVertex_14 : decode cX6_layVertex 14 = .ok (.iload 5, 2) := by decide +kernel
theorem dX6_layVertex_16 : decode cX6_layVertex 16 = .ok (.aload_n 0, 1) := by decide +kernel
theorem dX6_layVertex_17 : decode cX6_layVertex 17 = .ok (.getfield 19, 3) := by decide +kernel
theorem dX6_layVertex_20 : decode cX6_layVertex 20 = .ok (.getfield 56, 3) := by decide +kernel
theorem dX6_layVertex_23 : decode cX6_layVertex 23 = .ok (.iload_n 2, 1) := by decide +kernel
theorem dX6_layVertex_24 : decode cX6_layVertex 24 = .ok (.iconst 1, 1) := by decide +kernel
theorem dX6_layVertex_25 : decode cX6_layVertex 25 = .ok (.iadd, 1) := by decide +kernel
theorem dX6_layVertex_26 : decode cX6_layVertex 26 = .ok (.iaload, 1) := by decide +kernel
theorem dX6_layVertex_27 : decode cX6_layVertex 27 = .ok (.if_icmp .ge 87, 3) := by decide +kernel
theorem dX6_layVertex_30 : decode cX6_layVertex 30 = .ok (.aload_n 0, 1) := by decide +kernel
theorem dX6_layVertex_31 : decode cX6_layVertex 31 = .ok (.getfield 19, 3) := by decide +kernel
theorem dX6_layVertex_34 : decode cX6_layVertex 34 = .ok (.getfield 59, 3) := by decide +kernel
theorem dX6_layVertex_37 : decode cX6_layVertex 37 = .ok (.iload 5, 2) := by decide +kernel
theorem dX6_layVertex_39 : decode cX6_layVertex 39 = .ok (.iaload, 1) := by decide +kernel
theorem dX6_layVertex_40 : decode cX6_layVertex 40 = .ok (.istore 6, 2) := by decide +kernel
theorem dX6_layVertex_42 : decode cX6_layVertex 42 = .ok (.iload 6, 2) := by decide +kernel
theorem dX6_layVertex_44 : decode cX6_layVertex 44 = .ok (.iconst 1, 1) := by decide +kernel
theorem dX6_layVertex_45 : decode cX6_layVertex 45 = .ok (.ixor, 1) := by decide +kernel
theorem dX6_layVertex_46 : decode cX6_layVertex 46 = .ok (.istore 7, 2) := by decide +kernel
theorem dX6_layVertex_48 : decode cX6_layVertex 48 = .ok (.aload_n 0, 1) := by decide +kernel
theorem dX6_layVertex_49 : decode cX6_layVertex 49 = .ok (.iload 4, 2) := by decide +kernel
theorem dX6_layVertex_51 : decode cX6_layVertex 51 = .ok (.bipush 6, 2) := by decide +kernel
theorem dX6_layVertex_53 : decode cX6_layVertex 53 = .ok (.iload 6, 2) := by decide +kernel
theorem dX6_layVertex_55 : decode cX6_layVertex 55 = .ok (.imul, 1) := by decide +kernel
theorem dX6_layVertex_56 : decode cX6_layVertex 56 = .ok (.iconst 3, 1) := by decide +kernel
theorem dX6_layVertex_57 : decode cX6_layVertex 57 = .ok (.invokevirtual 48, 3) := by decide +kernel
theorem dX6_layVertex_60 : decode cX6_layVertex 60 = .ok (.istore 4, 2) := by decide +kernel
theorem dX6_layVertex_62 : decode cX6_layVertex 62 = .ok (.aload_n 3, 1) := by decide +kernel
theorem dX6_layVertex_63 : decode cX6_layVertex 63 = .ok (.aload_n 0, 1) := by decide +kernel
theorem dX6_layVertex_64 : decode cX6_layVertex 64 = .ok (.getfield 19, 3) := by decide +kernel
theorem dX6_layVertex_67 : decode cX6_layVertex 67 = .ok (.getfield 62, 3) := by decide +kernel
theorem dX6_layVertex_70 : decode cX6_layVertex 70 = .ok (.iload 7, 2) := by decide +kernel
theorem dX6_layVertex_72 : decode cX6_layVertex 72 = .ok (.iaload, 1) := by decide +kernel
theorem dX6_layVertex_73 : decode cX6_layVertex 73 = .ok (.iaload, 1) := by decide +kernel
theorem dX6_layVertex_74 : decode cX6_layVertex 74 = .ok (.ifCond .ne 18, 3) := by decide +kernel
theorem dX6_layVertex_77 : decode cX6_layVertex 77 = .ok (.aload_n 0, 1) := by decide +kernel
theorem dX6_layVertex_78 : decode cX6_layVertex 78 = .ok (.iload 4, 2) := by decide +kernel
theorem dX6_layVertex_80 : decode cX6_layVertex 80 = .ok (.bipush 6, 2) := by decide +kernel
theorem dX6_layVertex_82 : decode cX6_layVertex 82 = .ok (.iload 7, 2) := by decide +kernel
theorem dX6_layVertex_84 : decode cX6_layVertex 84 = .ok (.imul, 1) := by decide +kernel
theorem dX6_layVertex_85 : decode cX6_layVertex 85 = .ok (.bipush 6, 2) := by decide +kernel
theorem dX6_layVertex_87 : decode cX6_layVertex 87 = .ok (.invokevirtual 48, 3) := by decide +kernel
theorem dX6_layVertex_90 : decode cX6_layVertex 90 = .ok (.istore 4, 2) := by decide +kernel
theorem dX6_layVertex_92 : decode cX6_layVertex 92 = .ok (.aload_n 0, 1) := by decide +kernel
theorem dX6_layVertex_93 : decode cX6_layVertex 93 = .ok (.iload 4, 2) := by decide +kernel
theorem dX6_layVertex_95 : decode cX6_layVertex 95 = .ok (.bipush 6, 2) := by decide +kernel
theorem dX6_layVertex_97 : decode cX6_layVertex 97 = .ok (.iload 6, 2) := by decide +kernel
theorem dX6_layVertex_99 : decode cX6_layVertex 99 = .ok (.imul, 1) := by decide +kernel
theorem dX6_layVertex_100 : decode cX6_layVertex 100 = .ok (.iconst 3, 1) := by decide +kernel
theorem dX6_layVertex_101 : decode cX6_layVertex 101 = .ok (.iadd, 1) := by decide +kernel
theorem dX6_layVertex_102 : decode cX6_layVertex 102 = .ok (.iconst 3, 1) := by decide +kernel
theorem dX6_layVertex_103 : decode cX6_layVertex 103 = .ok (.invokevirtual 48, 3) := by decide +kernel
theorem dX6_layVertex_106 : decode cX6_layVertex 106 = .ok (.istore 4, 2) := by decide +kernel
theorem dX6_layVertex_108 : decode cX6_layVertex 108 = .ok (.iinc 5 1, 3) := by decide +kernel
theorem dX6_layVertex_111 : decode cX6_layVertex 111 = .ok (.goto (-97), 3) := by decide +kernel
theorem dX6_layVertex_114 : decode cX6_layVertex 114 = .ok (.iload 4, 2) := by decide +kernel
theorem dX6_layVertex_116 : decode cX6_layVertex 116 = .ok (.ireturn, 1) := by decide +kernel
theorem dX6_layCities_0 : decode cX6_layCities 0 = .ok (.iconst 0, 1) := by decide +kernel
theorem dX6_layCities_1 : decode cX6_layCities 1 = .ok (.istore 4, 2) := by decide +kernel
theorem dX6_layCities_3 : decode cX6_layCities 3 = .ok (.iload 4, 2) := by decide +kernel
theorem dX6_layCities_5 : decode cX6_layCities 5 = .ok (.iload_n 3, 1) := by decide +kernel
theorem dX6_layCities_6 : decode cX6_layCities 6 = .ok (.if_icmp .ge 22, 3) := by decide +kernel
theorem dX6_layCities_9 : decode cX6_layCities 9 = .ok (.aload_n 0, 1) := by decide +kernel
theorem dX6_layCities_10 : decode cX6_layCities 10 = .ok (.getfield 13, 3) := by decide +kernel
theorem dX6_layCities_13 : decode cX6_layCities 13 = .ok (.iload_n 1, 1) := by decide +kernel
theorem dX6_layCities_14 : decode cX6_layCities 14 = .ok (.iload 4, 2) := by decide +kernel
theorem dX6_layCities_16 : decode cX6_layCities 16 = .ok (.iadd, 1) := by decide +kernel
theorem dX6_layCities_17 : decode cX6_layCities 17 = .ok (.iload_n 2, 1) := by decide +kernel
theorem dX6_layCities_18 : decode cX6_layCities 18 = .ok (.iload 4, 2) := by decide +kernel
theorem dX6_layCities_20 : decode cX6_layCities 20 = .ok (.iadd, 1) := by decide +kernel
theorem dX6_layCities_21 : decode cX6_layCities 21 = .ok (.iastore, 1) := by decide +kernel
theorem dX6_layCities_22 : decode cX6_layCities 22 = .ok (.iinc 4 1, 3) := by decide +kernel
theorem dX6_layCities_25 : decode cX6_layCities 25 = .ok (.goto (-22), 3) := by decide +kernel
theorem dX6_layCities_28 : decode cX6_layCities 28 = .ok (.iload_n 1, 1) := by decide +kernel
theorem dX6_layCities_29 : decode cX6_layCities 29 = .ok (.iload_n 3, 1) := by decide +kernel
theorem dX6_layCities_30 : decode cX6_layCities 30 = .ok (.iadd, 1) := by decide +kernel
theorem dX6_layCities_31 : decode cX6_layCities 31 = .ok (.ireturn, 1) := by decide +kernel
set_option maxRecDepth 20000 in
theorem ggX6_at_X6_indexOf : GoodIn wsX6_at wsX6_indexOf := goodIn_r _ [6, 7, 8, 9, 10, 11, 12, 13, 14, 15, 16, 17, 18, 19, 20, 21, 22, 23, 24, 25, 26, 27, 28, 29] (by decide +kernel) (by decide +kernel)
set_option maxRecDepth 20000 in
theorem gX6_at_X6_indexOf : GoodIn wsX6_at (wsV RX6 65 RX6 yX6_indexOf wsX6_indexOf) := goodIn_app (goodIn_of _ (by decide +kernel)) ggX6_at_X6_indexOf
theorem dX6_at_0 : decode cX6_at 0 = .ok (.aload_n 0, 1) := by decide +kernel
theorem dX6_at_1 : decode cX6_at 1 = .ok (.getfield 13, 3) := by decide +kernel
theorem dX6_at_4 : decode cX6_at 4 = .ok (.aload_n 0, 1) := by decide +kernel
theorem dX6_at_5 : decode cX6_at 5 = .ok (.iload_n 1, 1) := by decide +kernel
theorem dX6_at_6 : decode cX6_at 6 = .ok (.invokevirtual 65, 3) := by decide +kernel
theorem dX6_at_9 : decode cX6_at 9 = .ok (.iaload, 1) := by decide +kernel
theorem dX6_at_10 : decode cX6_at 10 = .ok (.ireturn, 1) := by decide +kernel
set_option maxRecDepth 20000 in
theorem ggX6_replace_X6_indexOf : GoodIn wsX6_replace wsX6_indexOf := goodIn_r _ [6, 7, 8, 9, 10, 11, 12, 13, 14, 15, 16, 17, 18, 19, 20, 21, 22, 23, 24, 25, 26, 27, 28, 29] (by decide +kernel) (by decide +kernel)
set_option maxRecDepth 20000 in
theorem gX6_replace_X6_indexOf : GoodIn wsX6_replace (wsV RX6 65 RX6 yX6_indexOf wsX6_indexOf) := goodIn_app (goodIn_of _ (by decide +kernel)) ggX6_replace_X6_indexOf
theorem dX6_replace_0 : decode cX6_replace 0 = .ok (.aload_n 0, 1) := by decide +kernel
theorem dX6_replace_1 : decode cX6_replace 1 = .ok (.iload_n 1, 1) := by decide +kernel
theorem dX6_replace_2 : decode cX6_replace 2 = .ok (.invokevirtual 65, 3) := by decide +kernel
theorem dX6_replace_5 : decode cX6_replace 5 = .ok (.istore_n 3, 1) := by decide +kernel
theorem dX6_replace_6 : decode cX6_replace 6 = .ok (.aload_n 0, 1) := by decide +kernel
theorem dX6_replace_7 : decode cX6_replace 7 = .ok (.getfield 13, 3) := by decide +kernel
theorem dX6_replace_10 : decode cX6_replace 10 = .ok (.iload_n 3, 1) := by decide +kernel
theorem dX6_replace_11 : decode cX6_replace 11 = .ok (.iaload, 1) := by decide +kernel
theorem dX6_replace_12 : decode cX6_replace 12 = .ok (.istore 4, 2) := by decide +kernel
theorem dX6_replace_14 : decode cX6_replace 14 = .ok (.aload_n 0, 1) := by decide +kernel
theorem dX6_replace_15 : decode cX6_replace 15 = .ok (.getfield 13, 3) := by decide +kernel
theorem dX6_replace_18 : decode cX6_replace 18 = .ok (.iload_n 3, 1) := by decide +kernel
theorem dX6_replace_19 : decode cX6_replace 19 = .ok (.iload_n 2, 1) := by decide +kernel
theorem dX6_replace_20 : decode cX6_replace 20 = .ok (.iastore, 1) := by decide +kernel
theorem dX6_replace_21 : decode cX6_replace 21 = .ok (.iload 4, 2) := by decide +kernel
theorem dX6_replace_23 : decode cX6_replace 23 = .ok (.ireturn, 1) := by decide +kernel
set_option maxRecDepth 20000 in
theorem ggX6_beginAt_X6_indexOf : GoodIn wsX6_beginAt wsX6_indexOf := goodIn_r _ [6, 1, 7, 8, 9, 10, 11, 12, 13, 14, 15, 16, 17, 18, 19, 20, 21, 22, 23, 24, 25, 26, 27, 28] (by decide +kernel) (by decide +kernel)
set_option maxRecDepth 20000 in
theorem gX6_beginAt_X6_indexOf : GoodIn wsX6_beginAt (wsV RX6 65 RX6 yX6_indexOf wsX6_indexOf) := goodIn_app (goodIn_of _ (by decide +kernel)) ggX6_beginAt_X6_indexOf
theorem dX6_beginAt_0 : decode cX6_beginAt 0 = .ok (.aload_n 0, 1) := by decide +kernel
theorem dX6_beginAt_1 : decode cX6_beginAt 1 = .ok (.aload_n 0, 1) := by decide +kernel
theorem dX6_beginAt_2 : decode cX6_beginAt 2 = .ok (.iload_n 1, 1) := by decide +kernel
theorem dX6_beginAt_3 : decode cX6_beginAt 3 = .ok (.invokevirtual 65, 3) := by decide +kernel
theorem dX6_beginAt_6 : decode cX6_beginAt 6 = .ok (.putfield 35, 3) := by decide +kernel
theorem dX6_beginAt_9 : decode cX6_beginAt 9 = .ok (.return_, 1) := by decide +kernel
set_option maxRecDepth 20000 in
theorem ggX6_reverse_X6_indexOf : GoodIn wsX6_reverse wsX6_indexOf := goodIn_r _ [9, 3, 4, 1, 2, 10, 11, 12, 13, 14, 15, 16, 17, 18, 19, 20, 21, 22, 23, 24, 25, 26, 27, 28] (by decide +kernel) (by decide +kernel)
set_option maxRecDepth 20000 in
theorem gX6_reverse_X6_indexOf : GoodIn wsX6_reverse (wsV RX6 65 RX6 yX6_indexOf wsX6_indexOf) := goodIn_app (goodIn_of _ (by decide +kernel)) ggX6_reverse_X6_indexOf
theorem dX6_reverse_0 : decode cX6_reverse 0 = .ok (.aload_n 0, 1) := by decide +kernel
theorem dX6_reverse_1 : decode cX6_reverse 1 = .ok (.aload_n 0, 1) := by decide +kernel
theorem dX6_reverse_2 : decode cX6_reverse 2 = .ok (.aload_n 0, 1) := by decide +kernel
theorem dX6_reverse_3 : decode cX6_reverse 3 = .ok (.getfield 19, 3) := by decide +kernel
theorem dX6_reverse_6 : decode cX6_reverse 6 = .ok (.getfield 23, 3) := by decide +kernel
theorem dX6_reverse_9 : decode cX6_reverse 9 = .ok (.iconst 1, 1) := by decide +kernel
theorem dX6_reverse_10 : decode cX6_reverse 10 = .ok (.isub, 1) := by decide +kernel
theorem dX6_reverse_11 : decode cX6_reverse 11 = .ok (.invokevirtual 65, 3) := by decide +kernel
theorem dX6_reverse_14 : decode cX6_reverse 14 = .ok (.putfield 35, 3) := by decide +kernel
theorem dX6_reverse_17 : decode cX6_reverse 17 = .ok (.aload_n 0, 1) := by decide +kernel
theorem dX6_reverse_18 : decode cX6_reverse 18 = .ok (.aload_n 0, 1) := by decide +kernel
theorem dX6_reverse_19 : decode cX6_reverse 19 = .ok (.getfield 38, 3) := by decide +kernel
theorem dX6_reverse_22 : decode cX6_reverse 22 = .ok (.ineg, 1) := by decide +kernel
theorem dX6_reverse_23 : decode cX6_reverse 23 = .ok (.putfield 38, 3) := by decide +kernel
theorem dX6_reverse_26 : decode cX6_reverse 26 = .ok (.return_, 1) := by decide +kernel
set_option maxRecDepth 20000 in
theorem ggX6_indexOf_J9_floorMod_7cf53 : GoodIn wsX6_indexOf wsJ9_floorMod_7cf53 := goodIn_r _ [8] (by decide +kernel) (by decide +kernel)
set_option maxRecDepth 20000 in
theorem gX6_indexOf_J9_floorMod_7cf53 : GoodIn wsX6_indexOf (va_wsS RX6 69 yJ9_floorMod_7cf53 wsJ9_floorMod_7cf53) := goodIn_app (goodIn_of _ (by decide +kernel)) ggX6_indexOf_J9_floorMod_7cf53
theorem dX6_indexOf_0 : decode cX6_indexOf 0 = .ok (.aload_n 0, 1) := by decide +kernel
theorem dX6_indexOf_1 : decode cX6_indexOf 1 = .ok (.getfield 35, 3) := by decide +kernel
theorem dX6_indexOf_4 : decode cX6_indexOf 4 = .ok (.aload_n 0, 1) := by decide +kernel
theorem dX6_indexOf_5 : decode cX6_indexOf 5 = .ok (.getfield 38, 3) := by decide +kernel
theorem dX6_indexOf_8 : decode cX6_indexOf 8 = .ok (.iload_n 1, 1) := by decide +kernel
theorem dX6_indexOf_9 : decode cX6_indexOf 9 = .ok (.imul, 1) := by decide +kernel
theorem dX6_indexOf_10 : decode cX6_indexOf 10 = .ok (.iadd, 1) := by decide +kernel
theorem dX6_indexOf_11 : decode cX6_indexOf 11 = .ok (.aload_n 0, 1) := by decide +kernel
theorem dX6_indexOf_12 : decode cX6_indexOf 12 = .ok (.getfield 19, 3) := by decide +kernel
theorem dX6_indexOf_15 : decode cX6_indexOf 15 = .ok (.getfield 23, 3) := by decide +kernel
theorem dX6_indexOf_18 : decode cX6_indexOf 18 = .ok (.invokestatic 69, 3) := by decide +kernel
theorem dX6_indexOf_21 : decode cX6_indexOf 21 = .ok (.ireturn, 1) := by decide +kernel
set_option maxRecDepth 20000 in
theorem ggX6_hasEachCityOnce_X7_roomFor : GoodIn wsX6_hasEachCityOnce wsX7_roomFor := goodIn_r _ [7, 8, 9, 10, 11, 12] (by decide +kernel) (by decide +kernel)
set_option maxRecDepth 20000 in
theorem gX6_hasEachCityOnce_X7_roomFor_n29 : GoodIn wsX6_hasEachCityOnce (wsX7_roomFor) := ggX6_hasEachCityOnce_X7_roomFor
set_option maxRecDepth 20000 in
theorem ggX6_hasEachCityOnce_J7_fill_fda19 : GoodIn wsX6_hasEachCityOnce wsJ7_fill_fda19 := goodIn_r _ [16, 17, 18, 15, 19, 20, 21, 22, 38, 39, 40, 41] (by decide +kernel) (by decide +kernel)
set_option maxRecDepth 20000 in
theorem gX6_hasEachCityOnce_J7_fill_fda19 : GoodIn wsX6_hasEachCityOnce (va_wsS RX6 75 yJ7_fill_fda19 wsJ7_fill_fda19) := goodIn_app (goodIn_of _ (by decide +kernel)) ggX6_hasEachCityOnce_J7_fill_fda19
theorem dX6_hasEachCityOnce_0 : decode cX6_hasEachCityOnce 0 = .ok (.aload_n 0, 1) := by decide +kernel
theorem dX6_hasEachCityOnce_1 : decode cX6_hasEachCityOnce 1 = .ok (.getfield 19, 3) := by decide +kernel
theorem dX6_hasEachCityOnce_4 : decode cX6_hasEachCityOnce 4 = .ok (.getfield 23, 3) := by decide +kernel
theorem dX6_hasEachCityOnce_7 : decode cX6_hasEachCityOnce 7 = .ok (.bipush 32, 2) := by decide +kernel
theorem dX6_hasEachCityOnce_9 : decode cX6_hasEachCityOnce 9 = .ok (.idiv, 1) := by decide +kernel
theorem dX6_hasEachCityOnce_10 : decode cX6_hasEachCityOnce 10 = .ok (.iconst 1, 1) := by decide +kernel
theorem dX6_hasEachCityOnce_11 : decode cX6_hasEachCityOnce 11 = .ok (.iadd, 1) := by decide +kernel
theorem dX6_hasEachCityOnce_12 : decode cX6_hasEachCityOnce 12 = .ok (.istore_n 1, 1) := by decide +kernel
theorem dX6_hasEachCityOnce_13 : decode cX6_hasEachCityOnce 13 = .ok (.aload_n 0, 1) := by decide +kernel
theorem dX6_hasEachCityOnce_14 : decode cX6_hasEachCityOnce 14 = .ok (.aload_n 0, 1) := by decide +kernel
theorem dX6_hasEachCityOnce_15 : decode cX6_hasEachCityOnce 15 = .ok (.getfield 16, 3) := by decide +kernel
theorem dX6_hasEachCityOnce_18 : decode cX6_hasEachCityOnce 18 = .ok (.iload_n 1, 1) := by decide +kernel
theorem dX6_hasEachCityOnce_19 : decode cX6_hasEachCityOnce 19 = .ok (.invokestatic 29, 3) := by decide +kernel
theorem dX6_hasEachCityOnce_22 : decode cX6_hasEachCityOnce 22 = .ok (.putfield 16, 3) := by decide +kernel
theorem dX6_hasEachCityOnce_25 : decode cX6_hasEachCityOnce 25 = .ok (.aload_n 0, 1) := by decide +kernel
theorem dX6_hasEachCityOnce_26 : decode cX6_hasEachCityOnce 26 = .ok (.getfield 16, 3) := by decide +kernel
theorem dX6_hasEachCityOnce_29 : decode cX6_hasEachCityOnce 29 = .ok (.iconst 0, 1) := by decide +kernel
theorem dX6_hasEachCityOnce_30 : decode cX6_hasEachCityOnce 30 = .ok (.iload_n 1, 1) := by decide +kernel
theorem dX6_hasEachCityOnce_31 : decode cX6_hasEachCityOnce 31 = .ok (.iconst 0, 1) := by decide +kernel
theorem dX6_hasEachCityOnce_32 : decode cX6_hasEachCityOnce 32 = .ok (.invokestatic 75, 3) := by decide +kernel
theorem dX6_hasEachCityOnce_35 : decode cX6_hasEachCityOnce 35 = .ok (.iconst 0, 1) := by decide +kernel
theorem dX6_hasEachCityOnce_36 : decode cX6_hasEachCityOnce 36 = .ok (.istore_n 2, 1) := by decide +kernel
theorem dX6_hasEachCityOnce_37 : decode cX6_hasEachCityOnce 37 = .ok (.iload_n 2, 1) := by decide +kernel
theorem dX6_hasEachCityOnce_38 : decode cX6_hasEachCityOnce 38 = .ok (.aload_n 0, 1) := by decide +kernel
theorem dX6_hasEachCityOnce_39 : decode cX6_hasEachCityOnce 39 = .ok (.getfield 19, 3) := by decide +kernel
theorem dX6_hasEachCityOnce_42 : decode cX6_hasEachCityOnce 42 = .ok (.getfield 23, 3) := by decide +kernel
theorem dX6_hasEachCityOnce_45 : decode cX6_hasEachCityOnce 45 = .ok (.if_icmp .ge 60, 3) := by decide +kernel
theorem dX6_hasEachCityOnce_48 : decode cX6_hasEachCityOnce 48 = .ok (.iconst 1, 1) := by decide +kernel
theorem dX6_hasEachCityOnce_49 : decode cX6_hasEachCityOnce 49 = .ok (.aload_n 0, 1) := by decide +kernel
theorem dX6_hasEachCityOnce_50 : decode cX6_hasEachCityOnce 50 = .ok (.getfield 13, 3) := by decide +kernel
theorem dX6_hasEachCityOnce_53 : decode cX6_hasEachCityOnce 53 = .ok (.iload_n 2, 1) := by decide +kernel
theorem dX6_hasEachCityOnce_54 : decode cX6_hasEachCityOnce 54 = .ok (.iaload, 1) := by decide +kernel
theorem dX6_hasEachCityOnce_55 : decode cX6_hasEachCityOnce 55 = .ok (.bipush 32, 2) := by decide +kernel
theorem dX6_hasEachCityOnce_57 : decode cX6_hasEachCityOnce 57 = .ok (.irem, 1) := by decide +kernel
theorem dX6_hasEachCityOnce_58 : decode cX6_hasEachCityOnce 58 = .ok (.ishl, 1) := by decide +kernel
theorem dX6_hasEachCityOnce_59 : decode cX6_hasEachCityOnce 59 = .ok (.istore_n 3, 1) := by decide +kernel
theorem dX6_hasEachCityOnce_60 : decode cX6_hasEachCityOnce 60 = .ok (.aload_n 0, 1) := by decide +kernel
theorem dX6_hasEachCityOnce_61 : decode cX6_hasEachCityOnce 61 = .ok (.getfield 16, 3) := by decide +kernel
theorem dX6_hasEachCityOnce_64 : decode cX6_hasEachCityOnce 64 = .ok (.aload_n 0, 1) := by decide +kernel
theorem dX6_hasEachCityOnce_65 : decode cX6_hasEachCityOnce 65 = .ok (.getfield 13, 3) := by decide +kernel
theorem dX6_hasEachCityOnce_68 : decode cX6_hasEachCityOnce 68 = .ok (.iload_n 2, 1) := by decide +kernel
theorem dX6_hasEachCityOnce_69 : decode cX6_hasEachCityOnce 69 = .ok (.iaload, 1) := by decide +kernel
theorem dX6_hasEachCityOnce_70 : decode cX6_hasEachCityOnce 70 = .ok (.bipush 32, 2) := by decide +kernel
theorem dX6_hasEachCityOnce_72 : decode cX6_hasEachCityOnce 72 = .ok (.idiv, 1) := by decide +kernel
theorem dX6_hasEachCityOnce_73 : decode cX6_hasEachCityOnce 73 = .ok (.iaload, 1) := by decide +kernel
theorem dX6_hasEachCityOnce_74 : decode cX6_hasEachCityOnce 74 = .ok (.iload_n 3, 1) := by decide +kernel
theorem dX6_hasEachCityOnce_75 : decode cX6_hasEachCityOnce 75 = .ok (.iand, 1) := by decide +kernel
theorem dX6_hasEachCityOnce_76 : decode cX6_hasEachCityOnce 76 = .ok (.ifCond .eq 5, 3) := by decide +kernel
theorem dX6_hasEachCityOnce_79 : decode cX6_hasEachCityOnce 79 = .ok (.iconst 0, 1) := by decide +kernel
theorem dX6_hasEachCityOnce_80 : decode cX6_hasEachCityOnce 80 = .ok (.ireturn, 1) := by decide +kernel
theorem dX6_hasEachCityOnce_81 : decode cX6_hasEachCityOnce 81 = .ok (.aload_n 0, 1) := by decide +kernel
theorem dX6_hasEachCityOnce_82 : decode cX6_hasEachCityOnce 82 = .ok (.getfield 16, 3) := by decide +kernel
theorem dX6_hasEachCityOnce_85 : decode cX6_hasEachCityOnce 85 = .ok (.aload_n 0, 1) := by decide +kernel
theorem dX6_hasEachCityOnce_86 : decode cX6_hasEachCityOnce 86 = .ok (.getfield 13, 3) := by decide +kernel
theorem dX6_hasEachCityOnce_89 : decode cX6_hasEachCityOnce 89 = .ok (.iload_n 2, 1) := by decide +kernel
theorem dX6_hasEachCityOnce_90 : decode cX6_hasEachCityOnce 90 = .ok (.iaload, 1) := by decide +kernel
theorem dX6_hasEachCityOnce_91 : decode cX6_hasEachCityOnce 91 = .ok (.bipush 32, 2) := by decide +kernel
theorem dX6_hasEachCityOnce_93 : decode cX6_hasEachCityOnce 93 = .ok (.idiv, 1) := by decide +kernel
theorem dX6_hasEachCityOnce_94 : decode cX6_hasEachCityOnce 94 = .ok (.dup2, 1) := by decide +kernel
theorem dX6_hasEachCityOnce_95 : decode cX6_hasEachCityOnce 95 = .ok (.iaload, 1) := by decide +kernel
theorem dX6_hasEachCityOnce_96 : decode cX6_hasEachCityOnce 96 = .ok (.iload_n 3, 1) := by decide +kernel
theorem dX6_hasEachCityOnce_97 : decode cX6_hasEachCityOnce 97 = .ok (.ior, 1) := by decide +kernel
theorem dX6_hasEachCityOnce_98 : decode cX6_hasEachCityOnce 98 = .ok (.iastore, 1) := by decide +kernel
theorem dX6_hasEachCityOnce_99 : decode cX6_hasEachCityOnce 99 = .ok (.iinc 2 1, 3) := by decide +kernel
theorem dX6_hasEachCityOnce_102 : decode cX6_hasEachCityOnce 102 = .ok (.goto (-65), 3) := by decide +kernel
theorem dX6_hasEachCityOnce_105 : decode cX6_hasEachCityOnce 105 = .ok (.iconst 1, 1) := by decide +kernel
theorem dX6_hasEachCityOnce_106 : decode cX6_hasEachCityOnce 106 = .ok (.ireturn, 1) := by decide +kernel
set_option maxRecDepth 20000 in
theorem ggX6_total_X2_distance : GoodIn wsX6_total wsX2_distance := goodIn_r _ [8, 9, 10, 11, 7, 12, 13, 14, 15, 16, 17, 18, 19, 20, 21, 22, 23, 24, 31, 32, 33, 34, 35, 36, 37, 38, 39] (by decide +kernel) (by decide +kernel)
set_option maxRecDepth 20000 in
theorem gX6_total_X2_distance : GoodIn wsX6_total (wsV RX6 81 RX2 yX2_distance wsX2_distance) := goodIn_app (goodIn_of _ (by decide +kernel)) ggX6_total_X2_distance
theorem dX6_total_0 : decode cX6_total 0 = .ok (.aload_n 0, 1) := by decide +kernel
theorem dX6_total_1 : decode cX6_total 1 = .ok (.getfield 19, 3) := by decide +kernel
theorem dX6_total_4 : decode cX6_total 4 = .ok (.aload_n 0, 1) := by decide +kernel
theorem dX6_total_5 : decode cX6_total 5 = .ok (.getfield 13, 3) := by decide +kernel
theorem dX6_total_8 : decode cX6_total 8 = .ok (.aload_n 0, 1) := by decide +kernel
theorem dX6_total_9 : decode cX6_total 9 = .ok (.getfield 19, 3) := by decide +kernel
theorem dX6_total_12 : decode cX6_total 12 = .ok (.getfield 23, 3) := by decide +kernel
theorem dX6_total_15 : decode cX6_total 15 = .ok (.iconst 1, 1) := by decide +kernel
theorem dX6_total_16 : decode cX6_total 16 = .ok (.isub, 1) := by decide +kernel
theorem dX6_total_17 : decode cX6_total 17 = .ok (.iaload, 1) := by decide +kernel
theorem dX6_total_18 : decode cX6_total 18 = .ok (.aload_n 0, 1) := by decide +kernel
theorem dX6_total_19 : decode cX6_total 19 = .ok (.getfield 13, 3) := by decide +kernel
theorem dX6_total_22 : decode cX6_total 22 = .ok (.iconst 0, 1) := by decide +kernel
theorem dX6_total_23 : decode cX6_total 23 = .ok (.iaload, 1) := by decide +kernel
theorem dX6_total_24 : decode cX6_total 24 = .ok (.invokevirtual 81, 3) := by decide +kernel
theorem dX6_total_27 : decode cX6_total 27 = .ok (.istore_n 1, 1) := by decide +kernel
theorem dX6_total_28 : decode cX6_total 28 = .ok (.iconst 1, 1) := by decide +kernel
theorem dX6_total_29 : decode cX6_total 29 = .ok (.istore_n 2, 1) := by decide +kernel
theorem dX6_total_30 : decode cX6_total 30 = .ok (.iload_n 2, 1) := by decide +kernel
theorem dX6_total_31 : decode cX6_total 31 = .ok (.aload_n 0, 1) := by decide +kernel
theorem dX6_total_32 : decode cX6_total 32 = .ok (.getfield 19, 3) := by decide +kernel
theorem dX6_total_35 : decode cX6_total 35 = .ok (.getfield 23, 3) := by decide +kernel
theorem dX6_total_38 : decode cX6_total 38 = .ok (.if_icmp .ge 33, 3) := by decide +kernel
theorem dX6_total_41 : decode cX6_total 41 = .ok (.iload_n 1, 1) := by decide +kernel
theorem dX6_total_42 : decode cX6_total 42 = .ok (.aload_n 0, 1) := by decide +kernel
theorem dX6_total_43 : decode cX6_total 43 = .ok (.getfield 19, 3) := by decide +kernel
theorem dX6_total_46 : decode cX6_total 46 = .ok (.aload_n 0, 1) := by decide +kernel
theorem dX6_total_47 : decode cX6_total 47 = .ok (.getfield 13, 3) := by decide +kernel
theorem dX6_total_50 : decode cX6_total 50 = .ok (.iload_n 2, 1) := by decide +kernel
theorem dX6_total_51 : decode cX6_total 51 = .ok (.iconst 1, 1) := by decide +kernel
theorem dX6_total_52 : decode cX6_total 52 = .ok (.isub, 1) := by decide +kernel
theorem dX6_total_53 : decode cX6_total 53 = .ok (.iaload, 1) := by decide +kernel
theorem dX6_total_54 : decode cX6_total 54 = .ok (.aload_n 0, 1) := by decide +kernel
theorem dX6_total_55 : decode cX6_total 55 = .ok (.getfield 13, 3) := by decide +kernel
theorem dX6_total_58 : decode cX6_total 58 = .ok (.iload_n 2, 1) := by decide +kernel
theorem dX6_total_59 : decode cX6_total 59 = .ok (.iaload, 1) := by decide +kernel
theorem dX6_total_60 : decode cX6_total 60 = .ok (.invokevirtual 81, 3) := by decide +kernel
theorem dX6_total_63 : decode cX6_total 63 = .ok (.iadd, 1) := by decide +kernel
theorem dX6_total_64 : decode cX6_total 64 = .ok (.istore_n 1, 1) := by decide +kernel
theorem dX6_total_65 : decode cX6_total 65 = .ok (.iinc 2 1, 3) := by decide +kernel
theorem dX6_total_68 : decode cX6_total 68 = .ok (.goto (-38), 3) := by decide +kernel
theorem dX6_total_71 : decode cX6_total 71 = .ok (.iload_n 1, 1) := by decide +kernel
theorem dX6_total_72 : decode cX6_total 72 = .ok (.ireturn, 1) := by decide +kernel
set_option maxRecDepth 20000 in
theorem ggX6_isGood_X6_hasEachCityOnce : GoodIn wsX6_isGood wsX6_hasEachCityOnce := goodIn_r _ [7, 1, 2, 8, 9, 10, 11, 12, 13, 14, 15, 16, 17, 18, 19, 20, 21, 22, 23, 24, 25, 26, 27, 53, 54, 55, 56, 57, 58, 59, 60, 61, 62, 63, 64, 65, 66, 67, 68, 69, 70, 71] (by decide +kernel) (by decide +kernel)
set_option maxRecDepth 20000 in
theorem gX6_isGood_X6_hasEachCityOnce : GoodIn wsX6_isGood (wsV RX6 84 RX6 yX6_hasEachCityOnce wsX6_hasEachCityOnce) := goodIn_app (goodIn_of _ (by decide +kernel)) ggX6_isGood_X6_hasEachCityOnce
set_option maxRecDepth 20000 in
theorem ggX6_isGood_X6_total : GoodIn wsX6_isGood wsX6_total := goodIn_r _ [31, 1, 9, 2, 32, 33, 34, 35, 36, 37, 38, 39, 40, 41, 42, 43, 44, 45, 46, 47, 48, 49, 50, 51, 52, 53, 54, 55, 56, 57, 58, 59, 60, 61, 62, 63, 64, 65, 66, 67] (by decide +kernel) (by decide +kernel)
set_option maxRecDepth 20000 in
theorem gX6_isGood_X6_total : GoodIn wsX6_isGood (wsV RX6 88 RX6 yX6_total wsX6_total) := goodIn_app (goodIn_of _ (by decide +kernel)) ggX6_isGood_X6_total
theorem dX6_isGood_0 : decode cX6_isGood 0 = .ok (.aload_n 0, 1) := by decide +kernel
theorem dX6_isGood_1 : decode cX6_isGood 1 = .ok (.invokevirtual 84, 3) := by decide +kernel
theorem dX6_isGood_4 : decode cX6_isGood 4 = .ok (.ifCond .eq 21, 3) := by decide +kernel
theorem dX6_isGood_7 : decode cX6_isGood 7 = .ok (.aload_n 0, 1) := by decide +kernel
theorem dX6_isGood_8 : decode cX6_isGood 8 = .ok (.invokevirtual 88, 3) := by decide +kernel
theorem dX6_isGood_11 : decode cX6_isGood 11 = .ok (.aload_n 0, 1) := by decide +kernel
theorem dX6_isGood_12 : decode cX6_isGood 12 = .ok (.getfield 19, 3) := by decide +kernel
theorem dX6_isGood_15 : decode cX6_isGood 15 = .ok (.getfield 23, 3) := by decide +kernel
theorem dX6_isGood_18 : decode cX6_isGood 18 = .ok (.if_icmp .ne 7, 3) := by decide +kernel
theorem dX6_isGood_21 : decode cX6_isGood 21 = .ok (.iconst 1, 1) := by decide +kernel
theorem dX6_isGood_22 : decode cX6_isGood 22 = .ok (.goto 4, 3) := by decide +kernel
theorem dX6_isGood_25 : decode cX6_isGood 25 = .ok (.iconst 0, 1) := by decide +kernel
theorem dX6_isGood_26 : decode cX6_isGood 26 = .ok (.ireturn, 1) := by decide +kernel
set_option maxRecDepth 20000 in
theorem ggX6_pickCover_X7_roomFor : GoodIn wsX6_pickCover wsX7_roomFor := goodIn_r _ [7, 8, 9, 10, 11, 12] (by decide +kernel) (by decide +kernel)
set_option maxRecDepth 20000 in
theorem gX6_pickCover_X7_roomFor_n29 : GoodIn wsX6_pickCover (wsX7_roomFor) := ggX6_pickCover_X7_roomFor
set_option maxRecDepth 20000 in
theorem ggX6_pickCover_J7_fill_fda19 : GoodIn wsX6_pickCover wsJ7_fill_fda19 := goodIn_r _ [16, 17, 18, 15, 19, 20, 21, 22, 65, 66, 67, 68] (by decide +kernel) (by decide +kernel)
set_option maxRecDepth 20000 in
theorem gX6_pickCover_J7_fill_fda19 : GoodIn wsX6_pickCover (va_wsS RX6 75 yJ7_fill_fda19 wsJ7_fill_fda19) := goodIn_app (goodIn_of _ (by decide +kernel)) ggX6_pickCover_J7_fill_fda19
set_option maxRecDepth 20000 in
theorem ggX6_pickCover_X6_at : GoodIn wsX6_pickCover wsX6_at := goodIn_r _ [27, 28, 29, 30, 31, 26, 32, 33, 34, 2, 4, 35, 36, 37, 38, 50, 51, 52, 53, 54, 55, 56, 57, 58, 59, 60, 61, 62, 63, 64] (by decide +kernel) (by decide +kernel)
set_option maxRecDepth 20000 in
theorem gX6_pickCover_X6_at : GoodIn wsX6_pickCover (wsV RX6 91 RX6 yX6_at wsX6_at) := goodIn_app (goodIn_of _ (by decide +kernel)) ggX6_pickCover_X6_at
set_option maxRecDepth 20000 in
theorem ggX6_pickCover_X2_firstSelector : GoodIn wsX6_pickCover wsX2_firstSelector := goodIn_r _ [43, 44, 56, 57, 58, 59, 60, 61, 62, 63, 64] (by decide +kernel) (by decide +kernel)
set_option maxRecDepth 20000 in
theorem gX6_pickCover_X2_firstSelector : GoodIn wsX6_pickCover (wsV RX6 41 RX2 yX2_firstSelector wsX2_firstSelector) := goodIn_app (goodIn_of _ (by decide +kernel)) ggX6_pickCover_X2_firstSelector
set_option maxRecDepth 20000 in
theorem ggX6_pickCover_X6_pickVertexOf : GoodIn wsX6_pickCover wsX6_pickVertexOf := goodIn_r _ [48, 2, 1, 49, 39, 40, 41, 42, 43, 44, 50, 51, 52, 53, 54, 55, 56, 57, 58, 59, 60, 61, 62, 63, 64] (by decide +kernel) (by decide +kernel)
set_option maxRecDepth 20000 in
theorem gX6_pickCover_X6_pickVertexOf : GoodIn wsX6_pickCover (wsV RX6 94 RX6 yX6_pickVertexOf wsX6_pickVertexOf) := goodIn_app (goodIn_of _ (by decide +kernel)) ggX6_pickCover_X6_pickVertexOf
theorem dX6_pickCover_0 : decode cX6_pickCover 0 = .ok (.aload_n 0, 1) := by decide +kernel
theorem dX6_pickCover_1 : decode cX6_pickCover 1 = .ok (.aload_n 0, 1) := by decide +kernel
theorem dX6_pickCover_2 : decode cX6_pickCover 2 = .ok (.getfield 7, 3) := by decide +kernel
theorem dX6_pickCover_5 : decode cX6_pickCover 5 = .ok (.aload_n 0, 1) := by decide +kernel
theorem dX6_pickCover_6 : decode cX6_pickCover 6 = .ok (.getfield 19, 3) := by decide +kernel
theorem dX6_pickCover_9 : decode cX6_pickCover 9 = .ok (.getfield 45, 3) := by decide +kernel
theorem dX6_pickCover_12 : decode cX6_pickCover 12 = .ok (.invokestatic 29, 3) := by decide +kernel
theorem dX6_pickCover_15 : decode cX6_pickCover 15 = .ok (.putfield 7, 3) := by decide +kernel
theorem dX6_pickCover_18 : decode cX6_pickCover 18 = .ok (.aload_n 0, 1) := by decide +kernel
theorem dX6_pickCover_19 : decode cX6_pickCover 19 = .ok (.getfield 7, 3) := by decide +kernel
theorem dX6_pickCover_22 : decode cX6_pickCover 22 = .ok (.iconst 0, 1) := by decide +kernel
theorem dX6_pickCover_23 : decode cX6_pickCover 23 = .ok (.aload_n 0, 1) := by decide +kernel
theorem dX6_pickCover_24 : decode cX6_pickCover 24 = .ok (.getfield 19, 3) := by decide +kernel
theorem dX6_pickCover_27 : decode cX6_pickCover 27 = .ok (.getfield 45, 3) := by decide +kernel
theorem dX6_pickCover_30 : decode cX6_pickCover 30 = .ok (.iconst 0, 1) := by decide +kernel
theorem dX6_pickCover_31 : decode cX6_pickCover 31 = .ok (.invokestatic 75, 3) := by decide +kernel
theorem dX6_pickCover_34 : decode cX6_pickCover 34 = .ok (.iconst 0, 1) := by decide +kernel
theorem dX6_pickCover_35 : decode cX6_pickCover 35 = .ok (.istore_n 1, 1) := by decide +kernel
theorem dX6_pickCover_36 : decode cX6_pickCover 36 = .ok (.iload_n 1, 1) := by decide +kernel
theorem dX6_pickCover_37 : decode cX6_pickCover 37 = .ok (.aload_n 0, 1) := by decide +kernel
theorem dX6_pickCover_38 : decode cX6_pickCover 38 = .ok (.getfield 19, 3) := by decide +kernel
theorem dX6_pickCover_41 : decode cX6_pickCover 41 = .ok (.getfield 23, 3) := by decide +kernel
theorem dX6_pickCover_44 : decode cX6_pickCover 44 = .ok (.if_icmp .ge 43, 3) := by decide +kernel
theorem dX6_pickCover_47 : decode cX6_pickCover 47 = .ok (.aload_n 0, 1) := by decide +kernel
theorem dX6_pickCover_48 : decode cX6_pickCover 48 = .ok (.iload_n 1, 1) := by decide +kernel
theorem dX6_pickCover_49 : decode cX6_pickCover 49 = .ok (.invokevirtual 91, 3) := by decide +kernel
theorem dX6_pickCover_52 : decode cX6_pickCover 52 = .ok (.aload_n 0, 1) := by decide +kernel
theorem dX6_pickCover_53 : decode cX6_pickCover 53 = .ok (.getfield 19, 3) := by decide +kernel
theorem dX6_pickCover_56 : decode cX6_pickCover 56 = .ok (.invokevirtual 41, 3) := by decide +kernel
theorem dX6_pickCover_59 : decode cX6_pickCover 59 = .ok (.if_icmp .lt 22, 3) := by decide +kernel
theorem dX6_pickCover_62 : decode cX6_pickCover 62 = .ok (.aload_n 0, 1) := by decide +kernel
theorem dX6_pickCover_63 : decode cX6_pickCover 63 = .ok (.aload_n 0, 1) := by decide +kernel
theorem dX6_pickCover_64 : decode cX6_pickCover 64 = .ok (.iload_n 1, 1) := by decide +kernel
theorem dX6_pickCover_65 : decode cX6_pickCover 65 = .ok (.iconst 1, 1) := by decide +kernel
theorem dX6_pickCover_66 : decode cX6_pickCover 66 = .ok (.iadd, 1) := by decide +kernel
theorem dX6_pickCover_67 : decode cX6_pickCover 67 = .ok (.aload_n 0, 1) := by decide +kernel
theorem dX6_pickCover_68 : decode cX6_pickCover 68 = .ok (.getfield 19, 3) := by decide +kernel
theorem dX6_pickCover_71 : decode cX6_pickCover 71 = .ok (.getfield 23, 3) := by decide +kernel
theorem dX6_pickCover_74 : decode cX6_pickCover 74 = .ok (.irem, 1) := by decide +kernel
theorem dX6_pickCover_75 : decode cX6_pickCover 75 = .ok (.invokevirtual 91, 3) := by decide +kernel
theorem dX6_pickCover_78 : decode cX6_pickCover 78 = .ok (.invokevirtual 94, 3) := by decide +kernel
theorem dX6_pickCover_81 : decode cX6_pickCover 81 = .ok (.iinc 1 1, 3) := by decide +kernel
theorem dX6_pickCover_84 : decode cX6_pickCover 84 = .ok (.goto (-48), 3) := by decide +kernel
theorem dX6_pickCover_87 : decode cX6_pickCover 87 = .ok (.return_, 1) := by decide +kernel
set_option maxRecDepth 20000 in
theorem ggX6_pickVertexOf_X2_firstSelector : GoodIn wsX6_pickVertexOf wsX2_firstSelector := goodIn_r _ [8, 9, 16, 17, 18, 19, 20, 21, 22, 23, 24] (by decide +kernel) (by decide +kernel)
set_option maxRecDepth 20000 in
theorem gX6_pickVertexOf_X2_firstSelector : GoodIn wsX6_pickVertexOf (wsV RX6 41 RX2 yX2_firstSelector wsX2_firstSelector) := goodIn_app (goodIn_of _ (by decide +kernel)) ggX6_pickVertexOf_X2_firstSelector
theorem dX6_pickVertexOf_0 : decode cX6_pickVertexOf 0 = .ok (.iload_n 1, 1) := by decide +kernel
theorem dX6_pickVertexOf_1 : decode cX6_pickVertexOf 1 = .ok (.aload_n 0, 1) := by decide +kernel
theorem dX6_pickVertexOf_2 : decode cX6_pickVertexOf 2 = .ok (.getfield 19, 3) := by decide +kernel
theorem dX6_pickVertexOf_5 : decode cX6_pickVertexOf 5 = .ok (.invokevirtual 41, 3) := by decide +kernel
theorem dX6_pickVertexOf_8 : decode cX6_pickVertexOf 8 = .ok (.if_icmp .ge 21, 3) := by decide +kernel
theorem dX6_pickVertexOf_11 : decode cX6_pickVertexOf 11 = .ok (.aload_n 0, 1) := by decide +kernel
theorem dX6_pickVertexOf_12 : decode cX6_pickVertexOf 12 = .ok (.getfield 7, 3) := by decide +kernel
theorem dX6_pickVertexOf_15 : decode cX6_pickVertexOf 15 = .ok (.aload_n 0, 1) := by decide +kernel
theorem dX6_pickVertexOf_16 : decode cX6_pickVertexOf 16 = .ok (.getfield 19, 3) := by decide +kernel
theorem dX6_pickVertexOf_19 : decode cX6_pickVertexOf 19 = .ok (.getfield 62, 3) := by decide +kernel
theorem dX6_pickVertexOf_22 : decode cX6_pickVertexOf 22 = .ok (.iload_n 1, 1) := by decide +kernel
theorem dX6_pickVertexOf_23 : decode cX6_pickVertexOf 23 = .ok (.bipush 6, 2) := by decide +kernel
theorem dX6_pickVertexOf_25 : decode cX6_pickVertexOf 25 = .ok (.idiv, 1) := by decide +kernel
theorem dX6_pickVertexOf_26 : decode cX6_pickVertexOf 26 = .ok (.iaload, 1) := by decide +kernel
theorem dX6_pickVertexOf_27 : decode cX6_pickVertexOf 27 = .ok (.iconst 1, 1) := by decide +kernel
theorem dX6_pickVertexOf_28 : decode cX6_pickVertexOf 28 = .ok (.iastore, 1) := by decide +kernel
theorem dX6_pickVertexOf_29 : decode cX6_pickVertexOf 29 = .ok (.return_, 1) := by decide +kernel
set_option maxRecDepth 20000 in
theorem ggX7_init_X3_init : GoodIn wsX7_init wsX3_init := goodIn_r _ [31, 32, 2, 3, 33, 34, 35, 36, 37, 38, 39, 104, 105, 106, 107, 108, 109, 110, 111, 112, 113] (by decide +kernel) (by decide +kernel)
set_option maxRecDepth 20000 in
theorem gX7_init_X3_init_n9 : GoodIn wsX7_init (wsX3_init) := ggX7_init_X3_init
set_option maxRecDepth 20000 in
theorem ggX7_init_X5_init : GoodIn wsX7_init wsX5_init := goodIn_r _ [42, 43, 2, 3, 33, 44, 45, 46, 47, 48, 49, 122, 123, 124, 125, 126] (by decide +kernel) (by decide +kernel)
set_option maxRecDepth 20000 in
theorem gX7_init_X5_init : GoodIn wsX7_init (wsX5_init) := ggX7_init_X5_init
set_option maxRecDepth 20000 in
theorem ggX7_init_X0_init : GoodIn wsX7_init wsX0_init := goodIn_r _ [52, 53, 2, 3, 54, 55, 56, 57, 58, 59, 60, 61, 62, 63, 33, 64, 65, 156, 157, 127, 128, 129, 130, 131, 132, 133, 134, 135] (by decide +kernel) (by decide +kernel)
set_option maxRecDepth 20000 in
theorem gX7_init_X0_init : GoodIn wsX7_init (wsX0_init) := ggX7_init_X0_init
set_option maxRecDepth 20000 in
theorem ggX7_init_X2_init : GoodIn wsX7_init wsX2_init := goodIn_r _ [68, 69, 2, 3, 33, 70, 71, 72, 73, 74, 136, 137, 138, 139, 140, 141, 142, 143, 144] (by decide +kernel) (by decide +kernel)
set_option maxRecDepth 20000 in
theorem gX7_init_X2_init : GoodIn wsX7_init (wsX2_init) := ggX7_init_X2_init
set_option maxRecDepth 20000 in
theorem ggX7_init_X1_init : GoodIn wsX7_init wsX1_init := goodIn_r _ [77, 78, 2, 3, 33, 79, 80, 81, 82, 83, 145, 146, 147, 148, 149] (by decide +kernel) (by decide +kernel)
set_option maxRecDepth 20000 in
theorem gX7_init_X1_init : GoodIn wsX7_init (wsX1_init) := ggX7_init_X1_init
set_option maxRecDepth 20000 in
theorem ggX7_init_X6_init : GoodIn wsX7_init wsX6_init := goodIn_r _ [86, 87, 2, 3, 33, 88, 89, 90, 91, 150, 151, 152, 153, 154, 155] (by decide +kernel) (by decide +kernel)
set_option maxRecDepth 20000 in
theorem gX7_init_X6_init : GoodIn wsX7_init (wsX6_init) := ggX7_init_X6_init
set_option maxRecDepth 20000 in
theorem ggX7_init_X3_renew : GoodIn wsX7_init wsX3_renew := goodIn_r _ [95, 96, 97, 98, 99, 39, 100, 101, 102, 103, 104, 105, 106, 107, 108, 109, 110, 111, 112, 113] (by decide +kernel) (by decide +kernel)
set_option maxRecDepth 20000 in
theorem gX7_init_X3_renew : GoodIn wsX7_init (wsV RX7 66 RX3 yX3_renew wsX3_renew) := goodIn_app (goodIn_of _ (by decide +kernel)) ggX7_init_X3_renew
theorem dX7_init_0 : decode cX7_init 0 = .ok (.aload_n 0, 1) := by decide +kernel
theorem dX7_init_1 : decode cX7_init 1 = .ok (.invokespecial 1, 3) := by decide +kernel
theorem dX7_init_4 : decode cX7_init 4 = .ok (.aload_n 0, 1) := by decide +kernel
theorem dX7_init_5 : decode cX7_init 5 = .ok (.new 7, 3) := by decide +kernel
theorem dX7_init_8 : decode cX7_init 8 = .ok (.dup, 1) := by decide +kernel
theorem dX7_init_9 : decode cX7_init 9 = .ok (.invokespecial 9, 3) := by decide +kernel
theorem dX7_init_12 : decode cX7_init 12 = .ok (.putfield 10, 3) := by decide +kernel
theorem dX7_init_15 : decode cX7_init 15 = .ok (.aload_n 0, 1) := by decide +kernel
theorem dX7_init_16 : decode cX7_init 16 = .ok (.new 16, 3) := by decide +kernel
theorem dX7_init_19 : decode cX7_init 19 = .ok (.dup, 1) := by decide +kernel
theorem dX7_init_20 : decode cX7_init 20 = .ok (.aload_n 0, 1) := by decide +kernel
theorem dX7_init_21 : decode cX7_init 21 = .ok (.getfield 10, 3) := by decide +kernel
theorem dX7_init_24 : decode cX7_init 24 = .ok (.invokespecial 18, 3) := by decide +kernel
theorem dX7_init_27 : decode cX7_init 27 = .ok (.putfield 21, 3) := by decide +kernel
theorem dX7_init_30 : decode cX7_init 30 = .ok (.aload_n 0, 1) := by decide +kernel
theorem dX7_init_31 : decode cX7_init 31 = .ok (.new 25, 3) := by decide +kernel
theorem dX7_init_34 : decode cX7_init 34 = .ok (.dup, 1) := by decide +kernel
theorem dX7_init_35 : decode cX7_init 35 = .ok (.aload_n 0, 1) := by decide +kernel
theorem dX7_init_36 : decode cX7_init 36 = .ok (.getfield 10, 3) := by decide +kernel
theorem dX7_init_39 : decode cX7_init 39 = .ok (.invokespecial 27, 3) := by decide +kernel
theorem dX7_init_42 : decode cX7_init 42 = .ok (.putfield 28, 3) := by decide +kernel
theorem dX7_init_45 : decode cX7_init 45 = .ok (.aload_n 0, 1) := by decide +kernel
theorem dX7_init_46 : decode cX7_init 46 = .ok (.new 32, 3) := by decide +kernel
theorem dX7_init_49 : decode cX7_init 49 = .ok (.dup, 1) := by decide +kernel
theorem dX7_init_50 : decode cX7_init 50 = .ok (.aload_n 0, 1) := by decide +kernel
theorem dX7_init_51 : decode cX7_init 51 = .ok (.getfield 28, 3) := by decide +kernel
theorem dX7_init_54 : decode cX7_init 54 = .ok (.invokespecial 34, 3) := by decide +kernel
theorem dX7_init_57 : decode cX7_init 57 = .ok (.putfield 37, 3) := by decide +kernel
theorem dX7_init_60 : decode cX7_init 60 = .ok (.aload_n 0, 1) := by decide +kernel
theorem dX7_init_61 : decode cX7_init 61 = .ok (.new 41, 3) := by decide +kernel
theorem dX7_init_64 : decode cX7_init 64 = .ok (.dup, 1) := by decide +kernel
theorem dX7_init_65 : decode cX7_init 65 = .ok (.aload_n 0, 1) := by decide +kernel
theorem dX7_init_66 : decode cX7_init 66 = .ok (.getfield 21, 3) := by decide +kernel
theorem dX7_init_69 : decode cX7_init 69 = .ok (.aload_n 0, 1) := by decide +kernel
theorem dX7_init_70 : decode cX7_init 70 = .ok (.getfield 28, 3) := by decide +kernel
theorem dX7_init_73 : decode cX7_init 73 = .ok (.aload_n 0, 1) := by decide +kernel
theorem dX7_init_74 : decode cX7_init 74 = .ok (.getfield 37, 3) := by decide +kernel
theorem dX7_init_77 : decode cX7_init 77 = .ok (.invokespecial 43, 3) := by decide +kernel
theorem dX7_init_80 : decode cX7_init 80 = .ok (.putfield 46, 3) := by decide +kernel
theorem dX7_init_83 : decode cX7_init 83 = .ok (.aload_n 0, 1) := by decide +kernel
theorem dX7_init_84 : decode cX7_init 84 = .ok (.new 50, 3) := by decide +kernel
theorem dX7_init_87 : decode cX7_init 87 = .ok (.dup, 1) := by decide +kernel
theorem dX7_init_88 : decode cX7_init 88 = .ok (.aload_n 0, 1) := by decide +kernel
theorem dX7_init_89 : decode cX7_init 89 = .ok (.getfield 37, 3) := by decide +kernel
theorem dX7_init_92 : decode cX7_init 92 = .ok (.invokespecial 52, 3) := by decide +kernel
theorem dX7_init_95 : decode cX7_init 95 = .ok (.putfield 55, 3) := by decide +kernel
theorem dX7_init_98 : decode cX7_init 98 = .ok (.aload_n 0, 1) := by decide +kernel
theorem dX7_init_99 : decode cX7_init 99 = .ok (.iconst 0, 1) := by decide +kernel
theorem dX7_init_100 : decode cX7_init 100 = .ok (.putfield 59, 3) := by decide +kernel
theorem dX7_init_103 : decode cX7_init 103 = .ok (.aload_n 0, 1) := by decide +kernel
theorem dX7_init_104 : decode cX7_init 104 = .ok (.iconst 0, 1) := by decide +kernel
theorem dX7_init_105 : decode cX7_init 105 = .ok (.putfield 63, 3) := by decide +kernel
theorem dX7_init_108 : decode cX7_init 108 = .ok (.aload_n 0, 1) := by decide +kernel
theorem dX7_init_109 : decode cX7_init 109 = .ok (.getfield 10, 3) := by decide +kernel
theorem dX7_init_112 : decode cX7_init 112 = .ok (.iconst 2, 1) := by decide +kernel
theorem dX7_init_113 : decode cX7_init 113 = .ok (.iconst 2, 1) := by decide +kernel
theorem dX7_init_114 : decode cX7_init 114 = .ok (.iconst 1, 1) := by decide +kernel
theorem dX7_init_115 : decode cX7_init 115 = .ok (.invokevirtual 66, 3) := by decide +kernel
theorem dX7_init_118 : decode cX7_init 118 = .ok (.return_, 1) := by decide +kernel
set_option maxRecDepth 20000 in
theorem ggX7_machine_X7_isBetween : GoodIn wsX7_machine wsX7_isBetween := goodIn_r _ [5] (by decide +kernel) (by decide +kernel)
set_option maxRecDepth 20000 in
theorem gX7_machine_X7_isBetween : GoodIn wsX7_machine (va_wsS RX7 70 yX7_isBetween wsX7_isBetween) := goodIn_app (goodIn_of _ (by decide +kernel)) ggX7_machine_X7_isBetween
set_option maxRecDepth 20000 in
theorem ggX7_machine_X3_renew : GoodIn wsX7_machine wsX3_renew := goodIn_r _ [10, 11, 12, 13, 14, 15, 16, 17, 18, 19, 34, 35, 36, 37, 38, 39, 40, 41, 42, 43] (by decide +kernel) (by decide +kernel)
set_option maxRecDepth 20000 in
theorem gX7_machine_X3_renew : GoodIn wsX7_machine (wsV RX7 66 RX3 yX3_renew wsX3_renew) := goodIn_app (goodIn_of _ (by decide +kernel)) ggX7_machine_X3_renew
set_option maxRecDepth 20000 in
theorem ggX7_machine_X7_unbuild : GoodIn wsX7_machine wsX7_unbuild := goodIn_r _ [23, 24, 25, 26, 27, 28, 29, 30, 31, 32, 33] (by decide +kernel) (by decide +kernel)
set_option maxRecDepth 20000 in
theorem gX7_machine_X7_unbuild : GoodIn wsX7_machine (wsV RX7 74 RX7 yX7_unbuild wsX7_unbuild) := goodIn_app (goodIn_of _ (by decide +kernel)) ggX7_machine_X7_unbuild
theorem dX7_machine_0 : decode cX7_machine 0 = .ok (.iconst 2, 1) := by decide +kernel
theorem dX7_machine_1 : decode cX7_machine 1 = .ok (.iload_n 1, 1) := by decide +kernel
theorem dX7_machine_2 : decode cX7_machine 2 = .ok (.iconst 3, 1) := by decide +kernel
theorem dX7_machine_3 : decode cX7_machine 3 = .ok (.invokestatic 70, 3) := by decide +kernel
theorem dX7_machine_6 : decode cX7_machine 6 = .ok (.ifCond .eq 21, 3) := by decide +kernel
theorem dX7_machine_9 : decode cX7_machine 9 = .ok (.iconst 2, 1) := by decide +kernel
theorem dX7_machine_10 : decode cX7_machine 10 = .ok (.iload_n 2, 1) := by decide +kernel
theorem dX7_machine_11 : decode cX7_machine 11 = .ok (.iconst 3, 1) := by decide +kernel
theorem dX7_machine_12 : decode cX7_machine 12 = .ok (.invokestatic 70, 3) := by decide +kernel
theorem dX7_machine_15 : decode cX7_machine 15 = .ok (.ifCond .eq 12, 3) := by decide +kernel
theorem dX7_machine_18 : decode cX7_machine 18 = .ok (.iconst 1, 1) := by decide +kernel
theorem dX7_machine_19 : decode cX7_machine 19 = .ok (.iload_n 3, 1) := by decide +kernel
theorem dX7_machine_20 : decode cX7_machine 20 = .ok (.iconst 3, 1) := by decide +kernel
theorem dX7_machine_21 : decode cX7_machine 21 = .ok (.invokestatic 70, 3) := by decide +kernel
theorem dX7_machine_24 : decode cX7_machine 24 = .ok (.ifCond .ne 5, 3) := by decide +kernel
theorem dX7_machine_27 : decode cX7_machine 27 = .ok (.iconst 0, 1) := by decide +kernel
theorem dX7_machine_28 : decode cX7_machine 28 = .ok (.ireturn, 1) := by decide +kernel
theorem dX7_machine_29 : decode cX7_machine 29 = .ok (.aload_n 0, 1) := by decide +kernel
theorem dX7_machine_30 : decode cX7_machine 30 = .ok (.getfield 10, 3) := by decide +kernel
theorem dX7_machine_33 : decode cX7_machine 33 = .ok (.iload_n 1, 1) := by decide +kernel
theorem dX7_machine_34 : decode cX7_machine 34 = .ok (.iload_n 2, 1) := by decide +kernel
theorem dX7_machine_35 : decode cX7_machine 35 = .ok (.iload_n 3, 1) := by decide +kernel
theorem dX7_machine_36 : decode cX7_machine 36 = .ok (.invokevirtual 66, 3) := by decide +kernel
theorem dX7_machine_39 : decode cX7_machine 39 = .ok (.aload_n 0, 1) := by decide +kernel
theorem dX7_machine_40 : decode cX7_machine 40 = .ok (.invokevirtual 74, 3) := by decide +kernel
theorem dX7_machine_43 : decode cX7_machine 43 = .ok (.iconst 1, 1) := by decide +kernel
theorem dX7_machine_44 : decode cX7_machine 44 = .ok (.ireturn, 1) := by decide +kernel
set_option maxRecDepth 20000 in
theorem ggX7_rule_X3_isRule : GoodIn wsX7_rule wsX3_isRule := goodIn_r _ [7, 8, 9, 10, 11, 12, 6, 13, 14, 15, 16, 41, 42, 43, 44, 45, 46, 47, 48, 49, 50] (by decide +kernel) (by decide +kernel)
set_option maxRecDepth 20000 in
theorem gX7_rule_X3_isRule : GoodIn wsX7_rule (wsV RX7 81 RX3 yX3_isRule wsX3_isRule) := goodIn_app (goodIn_of _ (by decide +kernel)) ggX7_rule_X3_isRule
set_option maxRecDepth 20000 in
theorem ggX7_rule_X7_unbuild : GoodIn wsX7_rule wsX7_unbuild := goodIn_r _ [20, 21, 22, 33, 34, 35, 36, 37, 38, 39, 40] (by decide +kernel) (by decide +kernel)
set_option maxRecDepth 20000 in
theorem gX7_rule_X7_unbuild : GoodIn wsX7_rule (wsV RX7 74 RX7 yX7_unbuild wsX7_unbuild) := goodIn_app (goodIn_of _ (by decide +kernel)) ggX7_rule_X7_unbuild
set_option maxRecDepth 20000 in
theorem ggX7_rule_X3_addRule : GoodIn wsX7_rule wsX3_addRule := goodIn_r _ [26, 27, 28, 29, 30, 31, 32, 41, 42, 43, 44, 45, 46, 47, 48, 49, 50] (by decide +kernel) (by decide +kernel)
set_option maxRecDepth 20000 in
theorem gX7_rule_X3_addRule : GoodIn wsX7_rule (wsV RX7 85 RX3 yX3_addRule wsX3_addRule) := goodIn_app (goodIn_of _ (by decide +kernel)) ggX7_rule_X3_addRule
theorem dX7_rule_0 : decode cX7_rule 0 = .ok (.aload_n 0, 1) := by decide +kernel
theorem dX7_rule_1 : decode cX7_rule 1 = .ok (.getfield 10, 3) := by decide +kernel
theorem dX7_rule_4 : decode cX7_rule 4 = .ok (.getfield 77, 3) := by decide +kernel
theorem dX7_rule_7 : decode cX7_rule 7 = .ok (.bipush 8, 2) := by decide +kernel
theorem dX7_rule_9 : decode cX7_rule 9 = .ok (.if_icmp .ge 20, 3) := by decide +kernel
theorem dX7_rule_12 : decode cX7_rule 12 = .ok (.aload_n 0, 1) := by decide +kernel
theorem dX7_rule_13 : decode cX7_rule 13 = .ok (.getfield 10, 3) := by decide +kernel
theorem dX7_rule_16 : decode cX7_rule 16 = .ok (.iload_n 1, 1) := by decide +kernel
theorem dX7_rule_17 : decode cX7_rule 17 = .ok (.iload_n 2, 1) := by decide +kernel
theorem dX7_rule_18 : decode cX7_rule 18 = .ok (.iload_n 3, 1) := by decide +kernel
theorem dX7_rule_19 : decode cX7_rule 19 = .ok (.iload 4, 2) := by decide +kernel
theorem dX7_rule_21 : decode cX7_rule 21 = .ok (.iload 5, 2) := by decide +kernel
theorem dX7_rule_23 : decode cX7_rule 23 = .ok (.invokevirtual 81, 3) := by decide +kernel
theorem dX7_rule_26 : decode cX7_rule 26 = .ok (.ifCond .ne 5, 3) := by decide +kernel
theorem dX7_rule_29 : decode cX7_rule 29 = .ok (.iconst (-1), 1) := by decide +kernel
theorem dX7_rule_30 : decode cX7_rule 30 = .ok (.ireturn, 1) := by decide +kernel
theorem dX7_rule_31 : decode cX7_rule 31 = .ok (.aload_n 0, 1) := by decide +kernel
theorem dX7_rule_32 : decode cX7_rule 32 = .ok (.invokevirtual 74, 3) := by decide +kernel
theorem dX7_rule_35 : decode cX7_rule 35 = .ok (.aload_n 0, 1) := by decide +kernel
theorem dX7_rule_36 : decode cX7_rule 36 = .ok (.getfield 10, 3) := by decide +kernel
theorem dX7_rule_39 : decode cX7_rule 39 = .ok (.iload_n 1, 1) := by decide +kernel
theorem dX7_rule_40 : decode cX7_rule 40 = .ok (.iload_n 2, 1) := by decide +kernel
theorem dX7_rule_41 : decode cX7_rule 41 = .ok (.iload_n 3, 1) := by decide +kernel
theorem dX7_rule_42 : decode cX7_rule 42 = .ok (.iload 4, 2) := by decide +kernel
theorem dX7_rule_44 : decode cX7_rule 44 = .ok (.iload 5, 2) := by decide +kernel
theorem dX7_rule_46 : decode cX7_rule 46 = .ok (.invokevirtual 85, 3) := by decide +kernel
theorem dX7_rule_49 : decode cX7_rule 49 = .ok (.ireturn, 1) := by decide +kernel
set_option maxRecDepth 20000 in
theorem ggX7_input_X3_cells : GoodIn wsX7_input wsX3_cells := goodIn_r _ [8, 9, 28, 29, 30, 31, 32, 33, 34, 35, 36, 37] (by decide +kernel) (by decide +kernel)
set_option maxRecDepth 20000 in
theorem gX7_input_X3_cells : GoodIn wsX7_input (wsV RX7 89 RX3 yX3_cells wsX3_cells) := goodIn_app (goodIn_of _ (by decide +kernel)) ggX7_input_X3_cells
set_option maxRecDepth 20000 in
theorem ggX7_input_X7_isIndex : GoodIn wsX7_input wsX7_isIndex := goodIn_r _ [13] (by decide +kernel) (by decide +kernel)
set_option maxRecDepth 20000 in
theorem gX7_input_X7_isIndex : GoodIn wsX7_input (va_wsS RX7 93 yX7_isIndex wsX7_isIndex) := goodIn_app (goodIn_of _ (by decide +kernel)) ggX7_input_X7_isIndex
set_option maxRecDepth 20000 in
theorem ggX7_input_X7_unbuild : GoodIn wsX7_input wsX7_unbuild := goodIn_r _ [17, 18, 19, 20, 21, 22, 23, 24, 25, 26, 27] (by decide +kernel) (by decide +kernel)
set_option maxRecDepth 20000 in
theorem gX7_input_X7_unbuild : GoodIn wsX7_input (wsV RX7 74 RX7 yX7_unbuild wsX7_unbuild) := goodIn_app (goodIn_of _ (by decide +kernel)) ggX7_input_X7_unbuild
theorem dX7_input_0 : decode cX7_input 0 = .ok (.iload_n 1, 1) := by decide +kernel
theorem dX7_input_1 : decode cX7_input 1 = .ok (.aload_n 0, 1) := by decide +kernel
theorem dX7_input_2 : decode cX7_input 2 = .ok (.getfield 10, 3) := by decide +kernel
theorem dX7_input_5 : decode cX7_input 5 = .ok (.invokevirtual 89, 3) := by decide +kernel
theorem dX7_input_8 : decode cX7_input 8 = .ok (.invokestatic 93, 3) := by decide +kernel
theorem dX7_input_11 : decode cX7_input 11 = .ok (.ifCond .eq 17, 3) := by decide +kernel
theorem dX7_input_14 : decode cX7_input 14 = .ok (.iload_n 2, 1) := by decide +kernel
theorem dX7_input_15 : decode cX7_input 15 = .ok (.aload_n 0, 1) := by decide +kernel
theorem dX7_input_16 : decode cX7_input 16 = .ok (.getfield 10, 3) := by decide +kernel
theorem dX7_input_19 : decode cX7_input 19 = .ok (.getfield 97, 3) := by decide +kernel
theorem dX7_input_22 : decode cX7_input 22 = .ok (.invokestatic 93, 3) := by decide +kernel
theorem dX7_input_25 : decode cX7_input 25 = .ok (.ifCond .ne 5, 3) := by decide +kernel
theorem dX7_input_28 : decode cX7_input 28 = .ok (.iconst 0, 1) := by decide +kernel
theorem dX7_input_29 : decode cX7_input 29 = .ok (.ireturn, 1) := by decide +kernel
theorem dX7_input_30 : decode cX7_input 30 = .ok (.aload_n 0, 1) := by decide +kernel
theorem dX7_input_31 : decode cX7_input 31 = .ok (.getfield 10, 3) := by decide +kernel
theorem dX7_input_34 : decode cX7_input 34 = .ok (.getfield 100, 3) := by decide +kernel
theorem dX7_input_37 : decode cX7_input 37 = .ok (.iload_n 1, 1) := by decide +kernel
theorem dX7_input_38 : decode cX7_input 38 = .ok (.iload_n 2, 1) := by decide +kernel
theorem dX7_input_39 : decode cX7_input 39 = .ok (.iastore, 1) := by decide +kernel
theorem dX7_input_40 : decode cX7_input 40 = .ok (.aload_n 0, 1) := by decide +kernel
theorem dX7_input_41 : decode cX7_input 41 = .ok (.invokevirtual 74, 3) := by decide +kernel
theorem dX7_input_44 : decode cX7_input 44 = .ok (.iconst 1, 1) := by decide +kernel
theorem dX7_input_45 : decode cX7_input 45 = .ok (.ireturn, 1) := by decide +kernel
set_option maxRecDepth 20000 in
theorem ggX7_build_X0_write : GoodIn wsX7_build wsX0_write := goodIn_r _ [10, 11, 12, 13, 14, 15, 16, 17, 18, 9, 19, 20, 21, 22, 23, 24, 25, 26, 27, 28, 29, 30, 31, 32, 33, 34, 35, 36, 37, 38, 39, 40, 41, 42, 43, 44, 45, 46, 47, 48, 49, 50, 51, 52, 53, 54, 55, 56, 57, 58, 59, 60, 61, 62, 63, 64, 65, 66, 67, 68, 69, 70, 71, 72, 73, 74, 75, 76, 77, 78, 79, 80, 81, 82, 83, 84, 85, 86, 87, 88, 89, 90, 91, 92, 93, 94, 95, 96, 97, 98, 99, 100, 101, 102, 103, 104, 105, 106, 107, 108, 109, 110, 111, 112, 113, 114, 115, 116, 117, 118, 119, 120, 121, 122, 123, 124, 125, 126, 127, 128, 129, 130, 131, 132, 133, 134, 135, 136, 137, 138, 139, 140, 141, 142, 143, 144, 145, 146, 147, 148, 149, 150, 151, 152, 153, 154, 155, 156, 157, 158, 159, 160, 161, 162, 163, 164, 165, 166, 167, 168, 235, 236, 237, 238, 239, 240, 241, 242, 243, 244, 245, 246, 247, 248, 249, 250, 251, 252, 253, 254, 255] (by decide +kernel) (by decide +kernel)
set_option maxRecDepth 20000 in
theorem gX7_build_X0_write : GoodIn wsX7_build (wsV RX7 104 RX0 yX0_write wsX0_write) := goodIn_app (goodIn_of _ (by decide +kernel)) ggX7_build_X0_write
set_option maxRecDepth 20000 in
theorem ggX7_build_X2_draw : GoodIn wsX7_build wsX2_draw := goodIn_r _ [173, 174, 175, 176, 177, 178, 179, 180, 181, 182, 183, 9, 184, 146, 12, 185, 80, 186, 187, 188, 57, 189, 54, 79, 81, 82, 83, 190, 191, 192, 172, 193, 194, 195, 196, 197, 198, 199, 200, 201, 156, 202, 203, 204, 205, 206, 207, 208, 209, 210, 46, 211, 212, 213, 214, 215, 216, 217, 226, 227, 228, 229, 230, 231, 232, 233, 234, 235, 236, 237, 238, 239, 240, 241, 242, 243, 244, 245, 256, 257, 258, 259] (by decide +kernel) (by decide +kernel)
set_option maxRecDepth 20000 in
theorem gX7_build_X2_draw : GoodIn wsX7_build (wsV RX7 107 RX2 yX2_draw wsX2_draw) := goodIn_app (goodIn_of _ (by decide +kernel)) ggX7_build_X2_draw
theorem dX7_build_0 : decode cX7_build 0 = .ok (.aload_n 0, 1) := by decide +kernel
theorem dX7_build_1 : decode cX7_build 1 = .ok (.getfield 28, 3) := by decide +kernel
theorem dX7_build_4 : decode cX7_build 4 = .ok (.invokevirtual 104, 3) := by decide +kernel
theorem dX7_build_7 : decode cX7_build 7 = .ok (.aload_n 0, 1) := by decide +kernel
theorem dX7_build_8 : decode cX7_build 8 = .ok (.getfield 37, 3) := by decide +kernel
theorem dX7_build_11 : decode cX7_build 11 = .ok (.invokevirtual 107, 3) := by decide +kernel
theorem dX7_build_14 : decode cX7_build 14 = .ok (.aload_n 0, 1) := by decide +kernel
theorem dX7_build_15 : decode cX7_build 15 = .ok (.iconst 1, 1) := by decide +kernel
theorem dX7_build_16 : decode cX7_build 16 = .ok (.putfield 59, 3) := by decide +kernel
theorem dX7_build_19 : decode cX7_build 19 = .ok (.aload_n 0, 1) := by decide +kernel
theorem dX7_build_20 : decode cX7_build 20 = .ok (.iconst 0, 1) := by decide +kernel
theorem dX7_build_21 : decode cX7_build 21 = .ok (.putfield 63, 3) := by decide +kernel
theorem dX7_build_24 : decode cX7_build 24 = .ok (.aload_n 0, 1) := by decide +kernel
theorem dX7_build_25 : decode cX7_build 25 = .ok (.getfield 37, 3) := by decide +kernel
theorem dX7_build_28 : decode cX7_build 28 = .ok (.getfield 110, 3) := by decide +kernel
theorem dX7_build_31 : decode cX7_build 31 = .ok (.ireturn, 1) := by decide +kernel
set_option maxRecDepth 20000 in
theorem ggX7_count_X0_clauses : GoodIn wsX7_count wsX0_clauses := goodIn_r _ [14, 15, 16, 30, 31, 32, 33, 34, 35, 36, 37, 38, 48, 49] (by decide +kernel) (by decide +kernel)
set_option maxRecDepth 20000 in
theorem gX7_count_X0_clauses : GoodIn wsX7_count (wsV RX7 116 RX0 yX0_clauses wsX0_clauses) := goodIn_app (goodIn_of _ (by decide +kernel)) ggX7_count_X0_clauses
set_option maxRecDepth 20000 in
theorem ggX7_count_X0_threes : GoodIn wsX7_count wsX0_threes := goodIn_r _ [20, 21, 16, 30, 31, 32, 33, 34, 35, 36, 37, 38, 48, 49] (by decide +kernel) (by decide +kernel)
set_option maxRecDepth 20000 in
theorem gX7_count_X0_threes : GoodIn wsX7_count (wsV RX7 122 RX0 yX0_threes wsX0_threes) := goodIn_app (goodIn_of _ (by decide +kernel)) ggX7_count_X0_threes
theorem dX7_count_0 : decode cX7_count 0 = .ok (.aload_n 0, 1) := by decide +kernel
theorem dX7_count_1 : decode cX7_count 1 = .ok (.getfield 59, 3) := by decide +kernel
theorem dX7_count_4 : decode cX7_count 4 = .ok (.ifCond .ne 5, 3) := by decide +kernel
theorem dX7_count_7 : decode cX7_count 7 = .ok (.iconst (-1), 1) := by decide +kernel
theorem dX7_count_8 : decode cX7_count 8 = .ok (.ireturn, 1) := by decide +kernel
theorem dX7_count_9 : decode cX7_count 9 = .ok (.iload_n 1, 1) := by decide +kernel
theorem dX7_count_10 : decode cX7_count 10 = .ok (.tableswitch 110 0 7 #[46, 54, 62, 70, 78, 86, 94, 102], 46) := by decide +kernel
theorem dX7_count_56 : decode cX7_count 56 = .ok (.aload_n 0, 1) := by decide +kernel
theorem dX7_count_57 : decode cX7_count 57 = .ok (.getfield 28, 3) := by decide +kernel
theorem dX7_count_60 : decode cX7_count 60 = .ok (.getfield 113, 3) := by decide +kernel
theorem dX7_count_63 : decode cX7_count 63 = .ok (.ireturn, 1) := by decide +kernel
theorem dX7_count_64 : decode cX7_count 64 = .ok (.aload_n 0, 1) := by decide +kernel
theorem dX7_count_65 : decode cX7_count 65 = .ok (.getfield 28, 3) := by decide +kernel
theorem dX7_count_68 : decode cX7_count 68 = .ok (.invokevirtual 116, 3) := by decide +kernel
theorem dX7_count_71 : decode cX7_count 71 = .ok (.ireturn, 1) := by decide +kernel
theorem dX7_count_72 : decode cX7_count 72 = .ok (.aload_n 0, 1) := by decide +kernel
theorem dX7_count_73 : decode cX7_count 73 = .ok (.getfield 28, 3) := by decide +kernel
theorem dX7_count_76 : decode cX7_count 76 = .ok (.getfield 119, 3) := by decide +kernel
theorem dX7_count_79 : decode cX7_count 79 = .ok (.ireturn, 1) := by decide +kernel
theorem dX7_count_80 : decode cX7_count 80 = .ok (.aload_n 0, 1) := by decide +kernel
theorem dX7_count_81 : decode cX7_count 81 = .ok (.getfield 28, 3) := by decide +kernel
theorem dX7_count_84 : decode cX7_count 84 = .ok (.invokevirtual 122, 3) := by decide +kernel
theorem dX7_count_87 : decode cX7_count 87 = .ok (.ireturn, 1) := by decide +kernel
theorem dX7_count_88 : decode cX7_count 88 = .ok (.aload_n 0, 1) := by decide +kernel
theorem dX7_count_89 : decode cX7_count 89 = .ok (.getfield 37, 3) := by decide +kernel
theorem dX7_count_92 : decode cX7_count 92 = .ok (.getfield 125, 3) := by decide +kernel
theorem dX7_count_95 : decode cX7_count 95 = .ok (.ireturn, 1) := by decide +kernel
theorem dX7_count_96 : decode cX7_count 96 = .ok (.aload_n 0, 1) := by decide +kernel
theorem dX7_count_97 : decode cX7_count 97 = .ok (.getfield 37, 3) := by decide +kernel
theorem dX7_count_100 : decode cX7_count 100 = .ok (.getfield 128, 3) := by decide +kernel
theorem dX7_count_103 : decode cX7_count 103 = .ok (.ireturn, 1) := by decide +kernel
theorem dX7_count_104 : decode cX7_count 104 = .ok (.aload_n 0, 1) := by decide +kernel
theorem dX7_count_105 : decode cX7_count 105 = .ok (.getfield 37, 3) := by decide +kernel
theorem dX7_count_108 : decode cX7_count 108 = .ok (.getfield 131, 3) := by decide +kernel
theorem dX7_count_111 : decode cX7_count 111 = .ok (.ireturn, 1) := by decide +kernel
theorem dX7_count_112 : decode cX7_count 112 = .ok (.aload_n 0, 1) := by decide +kernel
theorem dX7_count_113 : decode cX7_count 113 = .ok (.getfield 37, 3) := by decide +kernel
theorem dX7_count_116 : decode cX7_count 116 = .ok (.getfield 110, 3) := by decide +kernel
theorem dX7_count_119 : decode cX7_count 119 = .ok (.ireturn, 1) := by decide +kernel
theorem dX7_count_120 : decode cX7_count 120 = .ok (.iconst (-1), 1) := by decide +kernel
theorem dX7_count_121 : decode cX7_count 121 = .ok (.ireturn, 1) := by decide +kernel
set_option maxRecDepth 20000 in
theorem ggX7_literal_X0_clauses : GoodIn wsX7_literal wsX0_clauses := goodIn_r _ [7, 8, 9, 32, 33, 34, 35, 36, 37, 38, 39, 40, 41, 42] (by decide +kernel) (by decide +kernel)
set_option maxRecDepth 20000 in
theorem gX7_literal_X0_clauses : GoodIn wsX7_literal (wsV RX7 116 RX0 yX0_clauses wsX0_clauses) := goodIn_app (goodIn_of _ (by decide +kernel)) ggX7_literal_X0_clauses
set_option maxRecDepth 20000 in
theorem ggX7_literal_X7_isIndex : GoodIn wsX7_literal wsX7_isIndex := goodIn_r _ [13] (by decide +kernel) (by decide +kernel)
set_option maxRecDepth 20000 in
theorem gX7_literal_X7_isIndex : GoodIn wsX7_literal (va_wsS RX7 93 yX7_isIndex wsX7_isIndex) := goodIn_app (goodIn_of _ (by decide +kernel)) ggX7_literal_X7_isIndex
set_option maxRecDepth 20000 in
theorem ggX7_literal_X0_length : GoodIn wsX7_literal wsX0_length := goodIn_r _ [17, 8, 18, 32, 33, 34, 35, 36, 37, 38, 39, 40, 41, 42] (by decide +kernel) (by decide +kernel)
set_option maxRecDepth 20000 in
theorem gX7_literal_X0_length : GoodIn wsX7_literal (wsV RX7 134 RX0 yX0_length wsX0_length) := goodIn_app (goodIn_of _ (by decide +kernel)) ggX7_literal_X0_length
set_option maxRecDepth 20000 in
theorem ggX7_literal_X0_literalOf : GoodIn wsX7_literal wsX0_literalOf := goodIn_r _ [22, 23, 18, 8, 32, 33, 34, 35, 36, 37, 38, 39, 40, 41, 42] (by decide +kernel) (by decide +kernel)
set_option maxRecDepth 20000 in
theorem gX7_literal_X0_literalOf : GoodIn wsX7_literal (wsV RX7 138 RX0 yX0_literalOf wsX0_literalOf) := goodIn_app (goodIn_of _ (by decide +kernel)) ggX7_literal_X0_literalOf
theorem dX7_literal_0 : decode cX7_literal 0 = .ok (.aload_n 0, 1) := by decide +kernel
theorem dX7_literal_1 : decode cX7_literal 1 = .ok (.getfield 59, 3) := by decide +kernel
theorem dX7_literal_4 : decode cX7_literal 4 = .ok (.ifCond .eq 32, 3) := by decide +kernel
theorem dX7_literal_7 : decode cX7_literal 7 = .ok (.iload_n 1, 1) := by decide +kernel
theorem dX7_literal_8 : decode cX7_literal 8 = .ok (.aload_n 0, 1) := by decide +kernel
theorem dX7_literal_9 : decode cX7_literal 9 = .ok (.getfield 28, 3) := by decide +kernel
theorem dX7_literal_12 : decode cX7_literal 12 = .ok (.invokevirtual 116, 3) := by decide +kernel
theorem dX7_literal_15 : decode cX7_literal 15 = .ok (.invokestatic 93, 3) := by decide +kernel
theorem dX7_literal_18 : decode cX7_literal 18 = .ok (.ifCond .eq 18, 3) := by decide +kernel
theorem dX7_literal_21 : decode cX7_literal 21 = .ok (.iload_n 2, 1) := by decide +kernel
theorem dX7_literal_22 : decode cX7_literal 22 = .ok (.aload_n 0, 1) := by decide +kernel
theorem dX7_literal_23 : decode cX7_literal 23 = .ok (.getfield 28, 3) := by decide +kernel
theorem dX7_literal_26 : decode cX7_literal 26 = .ok (.iload_n 1, 1) := by decide +kernel
theorem dX7_literal_27 : decode cX7_literal 27 = .ok (.invokevirtual 134, 3) := by decide +kernel
theorem dX7_literal_30 : decode cX7_literal 30 = .ok (.invokestatic 93, 3) := by decide +kernel
theorem dX7_literal_33 : decode cX7_literal 33 = .ok (.ifCond .ne 5, 3) := by decide +kernel
theorem dX7_literal_36 : decode cX7_literal 36 = .ok (.iconst (-1), 1) := by decide +kernel
theorem dX7_literal_37 : decode cX7_literal 37 = .ok (.ireturn, 1) := by decide +kernel
theorem dX7_literal_38 : decode cX7_literal 38 = .ok (.aload_n 0, 1) := by decide +kernel
theorem dX7_literal_39 : decode cX7_literal 39 = .ok (.getfield 28, 3) := by decide +kernel
theorem dX7_literal_42 : decode cX7_literal 42 = .ok (.iload_n 1, 1) := by decide +kernel
theorem dX7_literal_43 : decode cX7_literal 43 = .ok (.iload_n 2, 1) := by decide +kernel
theorem dX7_literal_44 : decode cX7_literal 44 = .ok (.invokevirtual 138, 3) := by decide +kernel
theorem dX7_literal_47 : decode cX7_literal 47 = .ok (.ireturn, 1) := by decide +kernel
set_option maxRecDepth 20000 in
theorem ggX7_three_X0_threes : GoodIn wsX7_three wsX0_threes := goodIn_r _ [7, 8, 9, 27, 28, 29, 30, 31, 32, 33, 34, 35, 36, 37] (by decide +kernel) (by decide +kernel)
set_option maxRecDepth 20000 in
theorem gX7_three_X0_threes : GoodIn wsX7_three (wsV RX7 122 RX0 yX0_threes wsX0_threes) := goodIn_app (goodIn_of _ (by decide +kernel)) ggX7_three_X0_threes
set_option maxRecDepth 20000 in
theorem ggX7_three_X7_isIndex : GoodIn wsX7_three wsX7_isIndex := goodIn_r _ [13] (by decide +kernel) (by decide +kernel)
set_option maxRecDepth 20000 in
theorem gX7_three_X7_isIndex : GoodIn wsX7_three (va_wsS RX7 93 yX7_isIndex wsX7_isIndex) := goodIn_app (goodIn_of _ (by decide +kernel)) ggX7_three_X7_isIndex
set_option maxRecDepth 20000 in
theorem ggX7_three_X0_literalOfThree : GoodIn wsX7_three wsX0_literalOfThree := goodIn_r _ [17, 8, 18, 27, 28, 29, 30, 31, 32, 33, 34, 35, 36, 37] (by decide +kernel) (by decide +kernel)
set_option maxRecDepth 20000 in
theorem gX7_three_X0_literalOfThree : GoodIn wsX7_three (wsV RX7 142 RX0 yX0_literalOfThree wsX0_literalOfThree) := goodIn_app (goodIn_of _ (by decide +kernel)) ggX7_three_X0_literalOfThree
theorem dX7_three_0 : decode cX7_three 0 = .ok (.aload_n 0, 1) := by decide +kernel
theorem dX7_three_1 : decode cX7_three 1 = .ok (.getfield 59, 3) := by decide +kernel
theorem dX7_three_4 : decode cX7_three 4 = .ok (.ifCond .eq 25, 3) := by decide +kernel
theorem dX7_three_7 : decode cX7_three 7 = .ok (.iload_n 1, 1) := by decide +kernel
theorem dX7_three_8 : decode cX7_three 8 = .ok (.aload_n 0, 1) := by decide +kernel
theorem dX7_three_9 : decode cX7_three 9 = .ok (.getfield 28, 3) := by decide +kernel
theorem dX7_three_12 : decode cX7_three 12 = .ok (.invokevirtual 122, 3) := by decide +kernel
theorem dX7_three_15 : decode cX7_three 15 = .ok (.invokestatic 93, 3) := by decide +kernel
theorem dX7_three_18 : decode cX7_three 18 = .ok (.ifCond .eq 11, 3) := by decide +kernel
theorem dX7_three_21 : decode cX7_three 21 = .ok (.iload_n 2, 1) := by decide +kernel
theorem dX7_three_22 : decode cX7_three 22 = .ok (.iconst 3, 1) := by decide +kernel
theorem dX7_three_23 : decode cX7_three 23 = .ok (.invokestatic 93, 3) := by decide +kernel
theorem dX7_three_26 : decode cX7_three 26 = .ok (.ifCond .ne 5, 3) := by decide +kernel
theorem dX7_three_29 : decode cX7_three 29 = .ok (.iconst (-1), 1) := by decide +kernel
theorem dX7_three_30 : decode cX7_three 30 = .ok (.ireturn, 1) := by decide +kernel
theorem dX7_three_31 : decode cX7_three 31 = .ok (.aload_n 0, 1) := by decide +kernel
theorem dX7_three_32 : decode cX7_three 32 = .ok (.getfield 28, 3) := by decide +kernel
theorem dX7_three_35 : decode cX7_three 35 = .ok (.iload_n 1, 1) := by decide +kernel
theorem dX7_three_36 : decode cX7_three 36 = .ok (.iload_n 2, 1) := by decide +kernel
theorem dX7_three_37 : decode cX7_three 37 = .ok (.invokevirtual 142, 3) := by decide +kernel
theorem dX7_three_40 : decode cX7_three 40 = .ok (.ireturn, 1) := by decide +kernel
set_option maxRecDepth 20000 in
theorem ggX7_end_X7_isIndex : GoodIn wsX7_end wsX7_isIndex := goodIn_r _ [8] (by decide +kernel) (by decide +kernel)
set_option maxRecDepth 20000 in
theorem gX7_end_X7_isIndex : GoodIn wsX7_end (va_wsS RX7 93 yX7_isIndex wsX7_isIndex) := goodIn_app (goodIn_of _ (by decide +kernel)) ggX7_end_X7_isIndex
theorem dX7_end_0 : decode cX7_end 0 = .ok (.aload_n 0, 1) := by decide +kernel
theorem dX7_end_1 : decode cX7_end 1 = .ok (.getfield 59, 3) := by decide +kernel
theorem dX7_end_4 : decode cX7_end 4 = .ok (.ifCond .eq 25, 3) := by decide +kernel
theorem dX7_end_7 : decode cX7_end 7 = .ok (.iload_n 1, 1) := by decide +kernel
theorem dX7_end_8 : decode cX7_end 8 = .ok (.aload_n 0, 1) := by decide +kernel
theorem dX7_end_9 : decode cX7_end 9 = .ok (.getfield 37, 3) := by decide +kernel
theorem dX7_end_12 : decode cX7_end 12 = .ok (.getfield 128, 3) := by decide +kernel
theorem dX7_end_15 : decode cX7_end 15 = .ok (.invokestatic 93, 3) := by decide +kernel
theorem dX7_end_18 : decode cX7_end 18 = .ok (.ifCond .eq 11, 3) := by decide +kernel
theorem dX7_end_21 : decode cX7_end 21 = .ok (.iload_n 2, 1) := by decide +kernel
theorem dX7_end_22 : decode cX7_end 22 = .ok (.iconst 2, 1) := by decide +kernel
theorem dX7_end_23 : decode cX7_end 23 = .ok (.invokestatic 93, 3) := by decide +kernel
theorem dX7_end_26 : decode cX7_end 26 = .ok (.ifCond .ne 5, 3) := by decide +kernel
theorem dX7_end_29 : decode cX7_end 29 = .ok (.iconst (-1), 1) := by decide +kernel
theorem dX7_end_30 : decode cX7_end 30 = .ok (.ireturn, 1) := by decide +kernel
theorem dX7_end_31 : decode cX7_end 31 = .ok (.aload_n 0, 1) := by decide +kernel
theorem dX7_end_32 : decode cX7_end 32 = .ok (.getfield 37, 3) := by decide +kernel
theorem dX7_end_35 : decode cX7_end 35 = .ok (.getfield 145, 3) := by decide +kernel
theorem dX7_end_38 : decode cX7_end 38 = .ok (.iconst 2, 1) := by decide +kernel
theorem dX7_end_39 : decode cX7_end 39 = .ok (.iload_n 1, 1) := by decide +kernel
theorem dX7_end_40 : decode cX7_end 40 = .ok (.imul, 1) := by decide +kernel
theorem dX7_end_41 : decode cX7_end 41 = .ok (.iload_n 2, 1) := by decide +kernel
theorem dX7_end_42 : decode cX7_end 42 = .ok (.iadd, 1) := by decide +kernel
theorem dX7_end_43 : decode cX7_end 43 = .ok (.iaload, 1) := by decide +kernel
theorem dX7_end_44 : decode cX7_end 44 = .ok (.ireturn, 1) := by decide +kernel
set_option maxRecDepth 20000 in
theorem ggX7_apart_X7_isIndex : GoodIn wsX7_apart wsX7_isIndex := goodIn_r _ [7] (by decide +kernel) (by decide +kernel)
set_option maxRecDepth 20000 in
theorem gX7_apart_X7_isIndex : GoodIn wsX7_apart (va_wsS RX7 93 yX7_isIndex wsX7_isIndex) := goodIn_app (goodIn_of _ (by decide +kernel)) ggX7_apart_X7_isIndex
set_option maxRecDepth 20000 in
theorem ggX7_apart_X2_distance : GoodIn wsX7_apart wsX2_distance := goodIn_r _ [12, 13, 14, 15, 11, 16, 17, 18, 19, 20, 21, 22, 23, 24, 25, 26, 27, 28, 37, 38, 39, 40, 41, 42, 43, 44, 45] (by decide +kernel) (by decide +kernel)
set_option maxRecDepth 20000 in
theorem gX7_apart_X2_distance : GoodIn wsX7_apart (wsV RX7 148 RX2 yX2_distance wsX2_distance) := goodIn_app (goodIn_of _ (by decide +kernel)) ggX7_apart_X2_distance
theorem dX7_apart_0 : decode cX7_apart 0 = .ok (.aload_n 0, 1) := by decide +kernel
theorem dX7_apart_1 : decode cX7_apart 1 = .ok (.getfield 59, 3) := by decide +kernel
theorem dX7_apart_4 : decode cX7_apart 4 = .ok (.ifCond .eq 31, 3) := by decide +kernel
theorem dX7_apart_7 : decode cX7_apart 7 = .ok (.iload_n 1, 1) := by decide +kernel
theorem dX7_apart_8 : decode cX7_apart 8 = .ok (.aload_n 0, 1) := by decide +kernel
theorem dX7_apart_9 : decode cX7_apart 9 = .ok (.getfield 37, 3) := by decide +kernel
theorem dX7_apart_12 : decode cX7_apart 12 = .ok (.getfield 110, 3) := by decide +kernel
theorem dX7_apart_15 : decode cX7_apart 15 = .ok (.invokestatic 93, 3) := by decide +kernel
theorem dX7_apart_18 : decode cX7_apart 18 = .ok (.ifCond .eq 17, 3) := by decide +kernel
theorem dX7_apart_21 : decode cX7_apart 21 = .ok (.iload_n 2, 1) := by decide +kernel
theorem dX7_apart_22 : decode cX7_apart 22 = .ok (.aload_n 0, 1) := by decide +kernel
theorem dX7_apart_23 : decode cX7_apart 23 = .ok (.getfield 37, 3) := by decide +kernel
theorem dX7_apart_26 : decode cX7_apart 26 = .ok (.getfield 110, 3) := by decide +kernel
theorem dX7_apart_29 : decode cX7_apart 29 = .ok (.invokestatic 93, 3) := by decide +kernel
theorem dX7_apart_32 : decode cX7_apart 32 = .ok (.ifCond .ne 5, 3) := by decide +kernel
theorem dX7_apart_35 : decode cX7_apart 35 = .ok (.iconst (-1), 1) := by decide +kernel
theorem dX7_apart_36 : decode cX7_apart 36 = .ok (.ireturn, 1) := by decide +kernel
theorem dX7_apart_37 : decode cX7_apart 37 = .ok (.aload_n 0, 1) := by decide +kernel
theorem dX7_apart_38 : decode cX7_apart 38 = .ok (.getfield 37, 3) := by decide +kernel
theorem dX7_apart_41 : decode cX7_apart 41 = .ok (.iload_n 1, 1) := by decide +kernel
theorem dX7_apart_42 : decode cX7_apart 42 = .ok (.iload_n 2, 1) := by decide +kernel
theorem dX7_apart_43 : decode cX7_apart 43 = .ok (.invokevirtual 148, 3) := by decide +kernel
theorem dX7_apart_46 : decode cX7_apart 46 = .ok (.ireturn, 1) := by decide +kernel
theorem dX7_solve_0 : decode cX7_solve 0 = .ok (.aload_n 0, 1) := by decide +kernel
theorem dX7_solve_1 : decode cX7_solve 1 = .ok (.getfield 59, 3) := by decide +kernel
theorem dX7_solve_4 : decode cX7_solve 4 = .ok (.ifCond .ne 13, 3) := by decide +kernel
theorem dX7_solve_7 : decode cX7_solve 7 = .ok (.new 151, 3) := by decide +kernel
theorem dX7_solve_10 : decode cX7_solve 10 = .ok (.dup, 1) := by decide +kernel
theorem dX7_solve_11 : decode cX7_solve 11 = .ok (.ldc 153, 2) := by decide +kernel
theorem dX7_solve_13 : decode cX7_solve 13 = .ok (.invokespecial 155, 3) := by decide +kernel
theorem dX7_solve_16 : decode cX7_solve 16 = .ok (.athrow, 1) := by decide +kernel
theorem dX7_solve_17 : decode cX7_solve 17 = .ok (.aload_n 0, 1) := by decide +kernel
theorem dX7_solve_18 : decode cX7_solve 18 = .ok (.aload_n 0, 1) := by decide +kernel
theorem dX7_solve_19 : decode cX7_solve 19 = .ok (.getfield 21, 3) := by decide +kernel
theorem dX7_solve_22 : decode cX7_solve 22 = .ok (.invokevirtual 158, 3) := by decide +kernel
theorem dX7_solve_25 : decode cX7_solve 25 = .ok (.putfield 63, 3) := by decide +kernel
theorem dX7_solve_28 : decode cX7_solve 28 = .ok (.aload_n 0, 1) := by decide +kernel
theorem dX7_solve_29 : decode cX7_solve 29 = .ok (.getfield 63, 3) := by decide +kernel
theorem dX7_solve_32 : decode cX7_solve 32 = .ok (.ifCond .eq 24, 3) := by decide +kernel
theorem dX7_solve_35 : decode cX7_solve 35 = .ok (.aload_n 0, 1) := by decide +kernel
theorem dX7_solve_36 : decode cX7_solve 36 = .ok (.getfield 46, 3) := by decide +kernel
theorem dX7_solve_39 : decode cX7_solve 39 = .ok (.invokevirtual 162, 3) := by decide +kernel
theorem dX7_solve_42 : decode cX7_solve 42 = .ok (.aload_n 0, 1) := by decide +kernel
theorem dX7_solve_43 : decode cX7_solve 43 = .ok (.getfield 55, 3) := by decide +kernel
theorem dX7_solve_46 : decode cX7_solve 46 = .ok (.aload_n 0, 1) := by decide +kernel
theorem dX7_solve_47 : decode cX7_solve 47 = .ok (.getfield 46, 3) := by decide +kernel
theorem dX7_solve_50 : decode cX7_solve 50 = .ok (.getfield 165, 3) := by decide +kernel
theorem dX7_solve_53 : decode cX7_solve 53 = .ok (.invokevirtual 168, 3) := by decide +kernel
theorem dX7_solve_56 : decode cX7_solve 56 = .ok (.aload_n 0, 1) := by decide +kernel
theorem dX7_solve_57 : decode cX7_solve 57 = .ok (.getfield 63, 3) := by decide +kernel
theorem dX7_solve_60 : decode cX7_solve 60 = .ok (.ireturn, 1) := by decide +kernel
set_option maxRecDepth 20000 in
theorem ggX7_choice_X7_isIndex : GoodIn wsX7_choice wsX7_isIndex := goodIn_r _ [9] (by decide +kernel) (by decide +kernel)
set_option maxRecDepth 20000 in
theorem gX7_choice_X7_isIndex : GoodIn wsX7_choice (va_wsS RX7 93 yX7_isIndex wsX7_isIndex) := goodIn_app (goodIn_of _ (by decide +kernel)) ggX7_choice_X7_isIndex
theorem dX7_choice_0 : decode cX7_choice 0 = .ok (.aload_n 0, 1) := by decide +kernel
theorem dX7_choice_1 : decode cX7_choice 1 = .ok (.getfield 63, 3) := by decide +kernel
theorem dX7_choice_4 : decode cX7_choice 4 = .ok (.ifCond .eq 29, 3) := by decide +kernel
theorem dX7_choice_7 : decode cX7_choice 7 = .ok (.iload_n 1, 1) := by decide +kernel
theorem dX7_choice_8 : decode cX7_choice 8 = .ok (.aload_n 0, 1) := by decide +kernel
theorem dX7_choice_9 : decode cX7_choice 9 = .ok (.getfield 10, 3) := by decide +kernel
theorem dX7_choice_12 : decode cX7_choice 12 = .ok (.getfield 172, 3) := by decide +kernel
theorem dX7_choice_15 : decode cX7_choice 15 = .ok (.invokestatic 93, 3) := by decide +kernel
theorem dX7_choice_18 : decode cX7_choice 18 = .ok (.ifCond .eq 15, 3) := by decide +kernel
theorem dX7_choice_21 : decode cX7_choice 21 = .ok (.aload_n 0, 1) := by decide +kernel
theorem dX7_choice_22 : decode cX7_choice 22 = .ok (.getfield 21, 3) := by decide +kernel
theorem dX7_choice_25 : decode cX7_choice 25 = .ok (.getfield 175, 3) := by decide +kernel
theorem dX7_choice_28 : decode cX7_choice 28 = .ok (.iload_n 1, 1) := by decide +kernel
theorem dX7_choice_29 : decode cX7_choice 29 = .ok (.iaload, 1) := by decide +kernel
theorem dX7_choice_30 : decode cX7_choice 30 = .ok (.goto 4, 3) := by decide +kernel
theorem dX7_choice_33 : decode cX7_choice 33 = .ok (.iconst (-1), 1) := by decide +kernel
theorem dX7_choice_34 : decode cX7_choice 34 = .ok (.ireturn, 1) := by decide +kernel
set_option maxRecDepth 20000 in
theorem ggX7_truth_X7_isIndex : GoodIn wsX7_truth wsX7_isIndex := goodIn_r _ [9] (by decide +kernel) (by decide +kernel)
set_option maxRecDepth 20000 in
theorem gX7_truth_X7_isIndex : GoodIn wsX7_truth (va_wsS RX7 93 yX7_isIndex wsX7_isIndex) := goodIn_app (goodIn_of _ (by decide +kernel)) ggX7_truth_X7_isIndex
theorem dX7_truth_0 : decode cX7_truth 0 = .ok (.aload_n 0, 1) := by decide +kernel
theorem dX7_truth_1 : decode cX7_truth 1 = .ok (.getfield 63, 3) := by decide +kernel
theorem dX7_truth_4 : decode cX7_truth 4 = .ok (.ifCond .eq 29, 3) := by decide +kernel
theorem dX7_truth_7 : decode cX7_truth 7 = .ok (.iload_n 1, 1) := by decide +kernel
theorem dX7_truth_8 : decode cX7_truth 8 = .ok (.aload_n 0, 1) := by decide +kernel
theorem dX7_truth_9 : decode cX7_truth 9 = .ok (.getfield 28, 3) := by decide +kernel
theorem dX7_truth_12 : decode cX7_truth 12 = .ok (.getfield 119, 3) := by decide +kernel
theorem dX7_truth_15 : decode cX7_truth 15 = .ok (.invokestatic 93, 3) := by decide +kernel
theorem dX7_truth_18 : decode cX7_truth 18 = .ok (.ifCond .eq 15, 3) := by decide +kernel
theorem dX7_truth_21 : decode cX7_truth 21 = .ok (.aload_n 0, 1) := by decide +kernel
theorem dX7_truth_22 : decode cX7_truth 22 = .ok (.getfield 46, 3) := by decide +kernel
theorem dX7_truth_25 : decode cX7_truth 25 = .ok (.getfield 178, 3) := by decide +kernel
theorem dX7_truth_28 : decode cX7_truth 28 = .ok (.iload_n 1, 1) := by decide +kernel
theorem dX7_truth_29 : decode cX7_truth 29 = .ok (.iaload, 1) := by decide +kernel
theorem dX7_truth_30 : decode cX7_truth 30 = .ok (.goto 4, 3) := by decide +kernel
theorem dX7_truth_33 : decode cX7_truth 33 = .ok (.iconst (-1), 1) := by decide +kernel
theorem dX7_truth_34 : decode cX7_truth 34 = .ok (.ireturn, 1) := by decide +kernel
set_option maxRecDepth 20000 in
theorem ggX7_covers_X7_isIndex : GoodIn wsX7_covers wsX7_isIndex := goodIn_r _ [9] (by decide +kernel) (by decide +kernel)
set_option maxRecDepth 20000 in
theorem gX7_covers_X7_isIndex : GoodIn wsX7_covers (va_wsS RX7 93 yX7_isIndex wsX7_isIndex) := goodIn_app (goodIn_of _ (by decide +kernel)) ggX7_covers_X7_isIndex
theorem dX7_covers_0 : decode cX7_covers 0 = .ok (.aload_n 0, 1) := by decide +kernel
theorem dX7_covers_1 : decode cX7_covers 1 = .ok (.getfield 63, 3) := by decide +kernel
theorem dX7_covers_4 : decode cX7_covers 4 = .ok (.ifCond .eq 29, 3) := by decide +kernel
theorem dX7_covers_7 : decode cX7_covers 7 = .ok (.iload_n 1, 1) := by decide +kernel
theorem dX7_covers_8 : decode cX7_covers 8 = .ok (.aload_n 0, 1) := by decide +kernel
theorem dX7_covers_9 : decode cX7_covers 9 = .ok (.getfield 37, 3) := by decide +kernel
theorem dX7_covers_12 : decode cX7_covers 12 = .ok (.getfield 125, 3) := by decide +kernel
theorem dX7_covers_15 : decode cX7_covers 15 = .ok (.invokestatic 93, 3) := by decide +kernel
theorem dX7_covers_18 : decode cX7_covers 18 = .ok (.ifCond .eq 15, 3) := by decide +kernel
theorem dX7_covers_21 : decode cX7_covers 21 = .ok (.aload_n 0, 1) := by decide +kernel
theorem dX7_covers_22 : decode cX7_covers 22 = .ok (.getfield 46, 3) := by decide +kernel
theorem dX7_covers_25 : decode cX7_covers 25 = .ok (.getfield 165, 3) := by decide +kernel
theorem dX7_covers_28 : decode cX7_covers 28 = .ok (.iload_n 1, 1) := by decide +kernel
theorem dX7_covers_29 : decode cX7_covers 29 = .ok (.iaload, 1) := by decide +kernel
theorem dX7_covers_30 : decode cX7_covers 30 = .ok (.goto 4, 3) := by decide +kernel
theorem dX7_covers_33 : decode cX7_covers 33 = .ok (.iconst (-1), 1) := by decide +kernel
theorem dX7_covers_34 : decode cX7_covers 34 = .ok (.ireturn, 1) := by decide +kernel
set_option maxRecDepth 20000 in
theorem ggX7_city_X7_isIndex : GoodIn wsX7_city wsX7_isIndex := goodIn_r _ [8] (by decide +kernel) (by decide +kernel)
set_option maxRecDepth 20000 in
theorem gX7_city_X7_isIndex : GoodIn wsX7_city (va_wsS RX7 93 yX7_isIndex wsX7_isIndex) := goodIn_app (goodIn_of _ (by decide +kernel)) ggX7_city_X7_isIndex
set_option maxRecDepth 20000 in
theorem ggX7_city_X6_at : GoodIn wsX7_city wsX6_at := goodIn_r _ [13, 14, 15, 16, 17, 12, 18, 19, 20, 21, 22, 23, 24, 25, 26, 44, 45, 46, 47, 48, 49, 35, 36, 37, 38, 39, 40, 41, 42, 43] (by decide +kernel) (by decide +kernel)
set_option maxRecDepth 20000 in
theorem gX7_city_X6_at : GoodIn wsX7_city (wsV RX7 181 RX6 yX6_at wsX6_at) := goodIn_app (goodIn_of _ (by decide +kernel)) ggX7_city_X6_at
theorem dX7_city_0 : decode cX7_city 0 = .ok (.aload_n 0, 1) := by decide +kernel
theorem dX7_city_1 : decode cX7_city 1 = .ok (.getfield 63, 3) := by decide +kernel
theorem dX7_city_4 : decode cX7_city 4 = .ok (.ifCond .eq 28, 3) := by decide +kernel
theorem dX7_city_7 : decode cX7_city 7 = .ok (.iload_n 1, 1) := by decide +kernel
theorem dX7_city_8 : decode cX7_city 8 = .ok (.aload_n 0, 1) := by decide +kernel
theorem dX7_city_9 : decode cX7_city 9 = .ok (.getfield 37, 3) := by decide +kernel
theorem dX7_city_12 : decode cX7_city 12 = .ok (.getfield 110, 3) := by decide +kernel
theorem dX7_city_15 : decode cX7_city 15 = .ok (.invokestatic 93, 3) := by decide +kernel
theorem dX7_city_18 : decode cX7_city 18 = .ok (.ifCond .eq 14, 3) := by decide +kernel
theorem dX7_city_21 : decode cX7_city 21 = .ok (.aload_n 0, 1) := by decide +kernel
theorem dX7_city_22 : decode cX7_city 22 = .ok (.getfield 55, 3) := by decide +kernel
theorem dX7_city_25 : decode cX7_city 25 = .ok (.iload_n 1, 1) := by decide +kernel
theorem dX7_city_26 : decode cX7_city 26 = .ok (.invokevirtual 181, 3) := by decide +kernel
theorem dX7_city_29 : decode cX7_city 29 = .ok (.goto 4, 3) := by decide +kernel
theorem dX7_city_32 : decode cX7_city 32 = .ok (.iconst (-1), 1) := by decide +kernel
theorem dX7_city_33 : decode cX7_city 33 = .ok (.ireturn, 1) := by decide +kernel
theorem dX7_put_0 : decode cX7_put 0 = .ok (.aload_n 0, 1) := by decide +kernel
theorem dX7_put_1 : decode cX7_put 1 = .ok (.invokevirtual 184, 3) := by decide +kernel
theorem dX7_put_4 : decode cX7_put 4 = .ok (.iload_n 1, 1) := by decide +kernel
theorem dX7_put_5 : decode cX7_put 5 = .ok (.aload_n 0, 1) := by decide +kernel
theorem dX7_put_6 : decode cX7_put 6 = .ok (.getfield 37, 3) := by decide +kernel
theorem dX7_put_9 : decode cX7_put 9 = .ok (.getfield 110, 3) := by decide +kernel
theorem dX7_put_12 : decode cX7_put 12 = .ok (.invokestatic 93, 3) := by decide +kernel
theorem dX7_put_15 : decode cX7_put 15 = .ok (.ifCond .eq 17, 3) := by decide +kernel
theorem dX7_put_18 : decode cX7_put 18 = .ok (.iload_n 2, 1) := by decide +kernel
theorem dX7_put_19 : decode cX7_put 19 = .ok (.aload_n 0, 1) := by decide +kernel
theorem dX7_put_20 : decode cX7_put 20 = .ok (.getfield 37, 3) := by decide +kernel
theorem dX7_put_23 : decode cX7_put 23 = .ok (.getfield 110, 3) := by decide +kernel
theorem dX7_put_26 : decode cX7_put 26 = .ok (.invokestatic 93, 3) := by decide +kernel
theorem dX7_put_29 : decode cX7_put 29 = .ok (.ifCond .ne 13, 3) := by decide +kernel
theorem dX7_put_32 : decode cX7_put 32 = .ok (.new 187, 3) := by decide +kernel
theorem dX7_put_35 : decode cX7_put 35 = .ok (.dup, 1) := by decide +kernel
theorem dX7_put_36 : decode cX7_put 36 = .ok (.ldc 189, 2) := by decide +kernel
theorem dX7_put_38 : decode cX7_put 38 = .ok (.invokespecial 191, 3) := by decide +kernel
theorem dX7_put_41 : decode cX7_put 41 = .ok (.athrow, 1) := by decide +kernel
theorem dX7_put_42 : decode cX7_put 42 = .ok (.aload_n 0, 1) := by decide +kernel
theorem dX7_put_43 : decode cX7_put 43 = .ok (.getfield 55, 3) := by decide +kernel
theorem dX7_put_46 : decode cX7_put 46 = .ok (.iload_n 1, 1) := by decide +kernel
theorem dX7_put_47 : decode cX7_put 47 = .ok (.iload_n 2, 1) := by decide +kernel
theorem dX7_put_48 : decode cX7_put 48 = .ok (.invokevirtual 192, 3) := by decide +kernel
theorem dX7_put_51 : decode cX7_put 51 = .ok (.ireturn, 1) := by decide +kernel
theorem dX7_turn_0 : decode cX7_turn 0 = .ok (.aload_n 0, 1) := by decide +kernel
theorem dX7_turn_1 : decode cX7_turn 1 = .ok (.invokevirtual 184, 3) := by decide +kernel
theorem dX7_turn_4 : decode cX7_turn 4 = .ok (.iload_n 1, 1) := by decide +kernel
theorem dX7_turn_5 : decode cX7_turn 5 = .ok (.aload_n 0, 1) := by decide +kernel
theorem dX7_turn_6 : decode cX7_turn 6 = .ok (.getfield 37, 3) := by decide +kernel
theorem dX7_turn_9 : decode cX7_turn 9 = .ok (.getfield 110, 3) := by decide +kernel
theorem dX7_turn_12 : decode cX7_turn 12 = .ok (.invokestatic 93, 3) := by decide +kernel
theorem dX7_turn_15 : decode cX7_turn 15 = .ok (.ifCond .ne 13, 3) := by decide +kernel
theorem dX7_turn_18 : decode cX7_turn 18 = .ok (.new 187, 3) := by decide +kernel
theorem dX7_turn_21 : decode cX7_turn 21 = .ok (.dup, 1) := by decide +kernel
theorem dX7_turn_22 : decode cX7_turn 22 = .ok (.ldc 195, 2) := by decide +kernel
theorem dX7_turn_24 : decode cX7_turn 24 = .ok (.invokespecial 191, 3) := by decide +kernel
theorem dX7_turn_27 : decode cX7_turn 27 = .ok (.athrow, 1) := by decide +kernel
theorem dX7_turn_28 : decode cX7_turn 28 = .ok (.aload_n 0, 1) := by decide +kernel
theorem dX7_turn_29 : decode cX7_turn 29 = .ok (.getfield 55, 3) := by decide +kernel
theorem dX7_turn_32 : decode cX7_turn 32 = .ok (.iload_n 1, 1) := by decide +kernel
theorem dX7_turn_33 : decode cX7_turn 33 = .ok (.invokevirtual 197, 3) := by decide +kernel
theorem dX7_turn_36 : decode cX7_turn 36 = .ok (.iload_n 2, 1) := by decide +kernel
theorem dX7_turn_37 : decode cX7_turn 37 = .ok (.ifCond .eq 10, 3) := by decide +kernel
theorem dX7_turn_40 : decode cX7_turn 40 = .ok (.aload_n 0, 1) := by decide +kernel
theorem dX7_turn_41 : decode cX7_turn 41 = .ok (.getfield 55, 3) := by decide +kernel
theorem dX7_turn_44 : decode cX7_turn 44 = .ok (.invokevirtual 201, 3) := by decide +kernel
theorem dX7_turn_47 : decode cX7_turn 47 = .ok (.return_, 1) := by decide +kernel
theorem dX7_cost_0 : decode cX7_cost 0 = .ok (.aload_n 0, 1) := by decide +kernel
theorem dX7_cost_1 : decode cX7_cost 1 = .ok (.invokevirtual 184, 3) := by decide +kernel
theorem dX7_cost_4 : decode cX7_cost 4 = .ok (.aload_n 0, 1) := by decide +kernel
theorem dX7_cost_5 : decode cX7_cost 5 = .ok (.getfield 55, 3) := by decide +kernel
theorem dX7_cost_8 : decode cX7_cost 8 = .ok (.invokevirtual 204, 3) := by decide +kernel
theorem dX7_cost_11 : decode cX7_cost 11 = .ok (.ifCond .eq 13, 3) := by decide +kernel
theorem dX7_cost_14 : decode cX7_cost 14 = .ok (.aload_n 0, 1) := by decide +kernel
theorem dX7_cost_15 : decode cX7_cost 15 = .ok (.getfield 55, 3) := by decide +kernel
theorem dX7_cost_18 : decode cX7_cost 18 = .ok (.invokevirtual 207, 3) := by decide +kernel
theorem dX7_cost_21 : decode cX7_cost 21 = .ok (.goto 4, 3) := by decide +kernel
theorem dX7_cost_24 : decode cX7_cost 24 = .ok (.iconst (-1), 1) := by decide +kernel
theorem dX7_cost_25 : decode cX7_cost 25 = .ok (.ireturn, 1) := by decide +kernel
theorem dX7_pull_0 : decode cX7_pull 0 = .ok (.aload_n 0, 1) := by decide +kernel
theorem dX7_pull_1 : decode cX7_pull 1 = .ok (.invokevirtual 184, 3) := by decide +kernel
theorem dX7_pull_4 : decode cX7_pull 4 = .ok (.aload_n 0, 1) := by decide +kernel
theorem dX7_pull_5 : decode cX7_pull 5 = .ok (.getfield 55, 3) := by decide +kernel
theorem dX7_pull_8 : decode cX7_pull 8 = .ok (.invokevirtual 210, 3) := by decide +kernel
theorem dX7_pull_11 : decode cX7_pull 11 = .ok (.ifCond .ne 5, 3) := by decide +kernel
theorem dX7_pull_14 : decode cX7_pull 14 = .ok (.iconst 0, 1) := by decide +kernel
theorem dX7_pull_15 : decode cX7_pull 15 = .ok (.ireturn, 1) := by decide +kernel
theorem dX7_pull_16 : decode cX7_pull 16 = .ok (.aload_n 0, 1) := by decide +kernel
theorem dX7_pull_17 : decode cX7_pull 17 = .ok (.getfield 55, 3) := by decide +kernel
theorem dX7_pull_20 : decode cX7_pull 20 = .ok (.invokevirtual 213, 3) := by decide +kernel
theorem dX7_pull_23 : decode cX7_pull 23 = .ok (.iconst 0, 1) := by decide +kernel
theorem dX7_pull_24 : decode cX7_pull 24 = .ok (.istore_n 1, 1) := by decide +kernel
theorem dX7_pull_25 : decode cX7_pull 25 = .ok (.iload_n 1, 1) := by decide +kernel
theorem dX7_pull_26 : decode cX7_pull 26 = .ok (.aload_n 0, 1) := by decide +kernel
theorem dX7_pull_27 : decode cX7_pull 27 = .ok (.getfield 10, 3) := by decide +kernel
theorem dX7_pull_30 : decode cX7_pull 30 = .ok (.getfield 172, 3) := by decide +kernel
theorem dX7_pull_33 : decode cX7_pull 33 = .ok (.if_icmp .ge 23, 3) := by decide +kernel
theorem dX7_pull_36 : decode cX7_pull 36 = .ok (.aload_n 0, 1) := by decide +kernel
theorem dX7_pull_37 : decode cX7_pull 37 = .ok (.getfield 21, 3) := by decide +kernel
theorem dX7_pull_40 : decode cX7_pull 40 = .ok (.getfield 175, 3) := by decide +kernel
theorem dX7_pull_43 : decode cX7_pull 43 = .ok (.iload_n 1, 1) := by decide +kernel
theorem dX7_pull_44 : decode cX7_pull 44 = .ok (.aload_n 0, 1) := by decide +kernel
theorem dX7_pull_45 : decode cX7_pull 45 = .ok (.iload_n 1, 1) := by decide +kernel
theorem dX7_pull_46 : decode cX7_pull 46 = .ok (.invokevirtual 216, 3) := by decide +kernel
theorem dX7_pull_49 : decode cX7_pull 49 = .ok (.iastore, 1) := by decide +kernel
theorem dX7_pull_50 : decode cX7_pull 50 = .ok (.iinc 1 1, 3) := by decide +kernel
theorem dX7_pull_53 : decode cX7_pull 53 = .ok (.goto (-28), 3) := by decide +kernel
theorem dX7_pull_56 : decode cX7_pull 56 = .ok (.aload_n 0, 1) := by decide +kernel
theorem dX7_pull_57 : decode cX7_pull 57 = .ok (.getfield 21, 3) := by decide +kernel
theorem dX7_pull_60 : decode cX7_pull 60 = .ok (.invokevirtual 219, 3) := by decide +kernel
theorem dX7_pull_63 : decode cX7_pull 63 = .ok (.pop, 1) := by decide +kernel
theorem dX7_pull_64 : decode cX7_pull 64 = .ok (.aload_n 0, 1) := by decide +kernel
theorem dX7_pull_65 : decode cX7_pull 65 = .ok (.getfield 46, 3) := by decide +kernel
theorem dX7_pull_68 : decode cX7_pull 68 = .ok (.invokevirtual 162, 3) := by decide +kernel
theorem dX7_pull_71 : decode cX7_pull 71 = .ok (.iconst 1, 1) := by decide +kernel
theorem dX7_pull_72 : decode cX7_pull 72 = .ok (.ireturn, 1) := by decide +kernel
theorem dX7_replay_0 : decode cX7_replay 0 = .ok (.aload_n 0, 1) := by decide +kernel
theorem dX7_replay_1 : decode cX7_replay 1 = .ok (.getfield 63, 3) := by decide +kernel
theorem dX7_replay_4 : decode cX7_replay 4 = .ok (.ifCond .ne 13, 3) := by decide +kernel
theorem dX7_replay_7 : decode cX7_replay 7 = .ok (.new 151, 3) := by decide +kernel
theorem dX7_replay_10 : decode cX7_replay 10 = .ok (.dup, 1) := by decide +kernel
theorem dX7_replay_11 : decode cX7_replay 11 = .ok (.ldc 222, 2) := by decide +kernel
theorem dX7_replay_13 : decode cX7_replay 13 = .ok (.invokespecial 155, 3) := by decide +kernel
theorem dX7_replay_16 : decode cX7_replay 16 = .ok (.athrow, 1) := by decide +kernel
theorem dX7_replay_17 : decode cX7_replay 17 = .ok (.aload_n 0, 1) := by decide +kernel
theorem dX7_replay_18 : decode cX7_replay 18 = .ok (.getfield 21, 3) := by decide +kernel
theorem dX7_replay_21 : decode cX7_replay 21 = .ok (.invokevirtual 219, 3) := by decide +kernel
theorem dX7_replay_24 : decode cX7_replay 24 = .ok (.ireturn, 1) := by decide +kernel
theorem dX7_unbuild_0 : decode cX7_unbuild 0 = .ok (.aload_n 0, 1) := by decide +kernel
theorem dX7_unbuild_1 : decode cX7_unbuild 1 = .ok (.iconst 0, 1) := by decide +kernel
theorem dX7_unbuild_2 : decode cX7_unbuild 2 = .ok (.putfield 59, 3) := by decide +kernel
theorem dX7_unbuild_5 : decode cX7_unbuild 5 = .ok (.aload_n 0, 1) := by decide +kernel
theorem dX7_unbuild_6 : decode cX7_unbuild 6 = .ok (.iconst 0, 1) := by decide +kernel
theorem dX7_unbuild_7 : decode cX7_unbuild 7 = .ok (.putfield 63, 3) := by decide +kernel
theorem dX7_unbuild_10 : decode cX7_unbuild 10 = .ok (.return_, 1) := by decide +kernel
theorem dX7_requireTrip_0 : decode cX7_requireTrip 0 = .ok (.aload_n 0, 1) := by decide +kernel
theorem dX7_requireTrip_1 : decode cX7_requireTrip 1 = .ok (.getfield 63, 3) := by decide +kernel
theorem dX7_requireTrip_4 : decode cX7_requireTrip 4 = .ok (.ifCond .ne 13, 3) := by decide +kernel
theorem dX7_requireTrip_7 : decode cX7_requireTrip 7 = .ok (.new 151, 3) := by decide +kernel
theorem dX7_requireTrip_10 : decode cX7_requireTrip 10 = .ok (.dup, 1) := by decide +kernel
theorem dX7_requireTrip_11 : decode cX7_requireTrip 11 = .ok (.ldc 224, 2) := by decide +kernel
theorem dX7_requireTrip_13 : decode cX7_requireTrip 13 = .ok (.invokespecial 155, 3) := by decide +kernel
theorem dX7_requireTrip_16 : decode cX7_requireTrip 16 = .ok (.athrow, 1) := by decide +kernel
theorem dX7_requireTrip_17 : decode cX7_requireTrip 17 = .ok (.return_, 1) := by decide +kernel
set_option maxRecDepth 20000 in
theorem ggX7_pickedChoice_X0_choiceVariable : GoodIn wsX7_pickedChoice wsX0_choiceVariable := goodIn_r _ [10, 11, 12, 13, 42, 43, 44, 45, 46, 47, 48, 49, 50, 26, 27, 28, 29, 30, 31, 32, 33, 34, 35] (by decide +kernel) (by decide +kernel)
set_option maxRecDepth 20000 in
theorem gX7_pickedChoice_X0_choiceVariable : GoodIn wsX7_pickedChoice (wsV RX7 229 RX0 yX0_choiceVariable wsX0_choiceVariable) := goodIn_app (goodIn_of _ (by decide +kernel)) ggX7_pickedChoice_X0_choiceVariable
set_option maxRecDepth 20000 in
theorem ggX7_pickedChoice_X7_yes : GoodIn wsX7_pickedChoice wsX7_yes := goodIn_r _ [17] (by decide +kernel) (by decide +kernel)
set_option maxRecDepth 20000 in
theorem gX7_pickedChoice_X7_yes : GoodIn wsX7_pickedChoice (va_wsS RX7 232 yX7_yes wsX7_yes) := goodIn_app (goodIn_of _ (by decide +kernel)) ggX7_pickedChoice_X7_yes
theorem dX7_pickedChoice_0 : decode cX7_pickedChoice 0 = .ok (.iconst 0, 1) := by decide +kernel
theorem dX7_pickedChoice_1 : decode cX7_pickedChoice 1 = .ok (.istore_n 2, 1) := by decide +kernel
theorem dX7_pickedChoice_2 : decode cX7_pickedChoice 2 = .ok (.iload_n 2, 1) := by decide +kernel
theorem dX7_pickedChoice_3 : decode cX7_pickedChoice 3 = .ok (.aload_n 0, 1) := by decide +kernel
theorem dX7_pickedChoice_4 : decode cX7_pickedChoice 4 = .ok (.getfield 10, 3) := by decide +kernel
theorem dX7_pickedChoice_7 : decode cX7_pickedChoice 7 = .ok (.getfield 77, 3) := by decide +kernel
theorem dX7_pickedChoice_10 : decode cX7_pickedChoice 10 = .ok (.if_icmp .ge 35, 3) := by decide +kernel
theorem dX7_pickedChoice_13 : decode cX7_pickedChoice 13 = .ok (.aload_n 0, 1) := by decide +kernel
theorem dX7_pickedChoice_14 : decode cX7_pickedChoice 14 = .ok (.getfield 55, 3) := by decide +kernel
theorem dX7_pickedChoice_17 : decode cX7_pickedChoice 17 = .ok (.getfield 226, 3) := by decide +kernel
theorem dX7_pickedChoice_20 : decode cX7_pickedChoice 20 = .ok (.aload_n 0, 1) := by decide +kernel
theorem dX7_pickedChoice_21 : decode cX7_pickedChoice 21 = .ok (.getfield 28, 3) := by decide +kernel
theorem dX7_pickedChoice_24 : decode cX7_pickedChoice 24 = .ok (.iload_n 1, 1) := by decide +kernel
theorem dX7_pickedChoice_25 : decode cX7_pickedChoice 25 = .ok (.iload_n 2, 1) := by decide +kernel
theorem dX7_pickedChoice_26 : decode cX7_pickedChoice 26 = .ok (.invokevirtual 229, 3) := by decide +kernel
theorem dX7_pickedChoice_29 : decode cX7_pickedChoice 29 = .ok (.invokestatic 232, 3) := by decide +kernel
theorem dX7_pickedChoice_32 : decode cX7_pickedChoice 32 = .ok (.iaload, 1) := by decide +kernel
theorem dX7_pickedChoice_33 : decode cX7_pickedChoice 33 = .ok (.iconst 1, 1) := by decide +kernel
theorem dX7_pickedChoice_34 : decode cX7_pickedChoice 34 = .ok (.if_icmp .ne 5, 3) := by decide +kernel
theorem dX7_pickedChoice_37 : decode cX7_pickedChoice 37 = .ok (.iload_n 2, 1) := by decide +kernel
theorem dX7_pickedChoice_38 : decode cX7_pickedChoice 38 = .ok (.ireturn, 1) := by decide +kernel
theorem dX7_pickedChoice_39 : decode cX7_pickedChoice 39 = .ok (.iinc 2 1, 3) := by decide +kernel
theorem dX7_pickedChoice_42 : decode cX7_pickedChoice 42 = .ok (.goto (-40), 3) := by decide +kernel
theorem dX7_pickedChoice_45 : decode cX7_pickedChoice 45 = .ok (.aload_n 0, 1) := by decide +kernel
theorem dX7_pickedChoice_46 : decode cX7_pickedChoice 46 = .ok (.getfield 10, 3) := by decide +kernel
theorem dX7_pickedChoice_49 : decode cX7_pickedChoice 49 = .ok (.getfield 77, 3) := by decide +kernel
theorem dX7_pickedChoice_52 : decode cX7_pickedChoice 52 = .ok (.ireturn, 1) := by decide +kernel
theorem dX7_isBetween_0 : decode cX7_isBetween 0 = .ok (.iload_n 0, 1) := by decide +kernel
theorem dX7_isBetween_1 : decode cX7_isBetween 1 = .ok (.iload_n 1, 1) := by decide +kernel
theorem dX7_isBetween_2 : decode cX7_isBetween 2 = .ok (.if_icmp .gt 12, 3) := by decide +kernel
theorem dX7_isBetween_5 : decode cX7_isBetween 5 = .ok (.iload_n 1, 1) := by decide +kernel
theorem dX7_isBetween_6 : decode cX7_isBetween 6 = .ok (.iload_n 2, 1) := by decide +kernel
theorem dX7_isBetween_7 : decode cX7_isBetween 7 = .ok (.if_icmp .gt 7, 3) := by decide +kernel
theorem dX7_isBetween_10 : decode cX7_isBetween 10 = .ok (.iconst 1, 1) := by decide +kernel
theorem dX7_isBetween_11 : decode cX7_isBetween 11 = .ok (.goto 4, 3) := by decide +kernel
theorem dX7_isBetween_14 : decode cX7_isBetween 14 = .ok (.iconst 0, 1) := by decide +kernel
theorem dX7_isBetween_15 : decode cX7_isBetween 15 = .ok (.ireturn, 1) := by decide +kernel
theorem dX7_isIndex_0 : decode cX7_isIndex 0 = .ok (.iconst 0, 1) := by decide +kernel
theorem dX7_isIndex_1 : decode cX7_isIndex 1 = .ok (.iload_n 0, 1) := by decide +kernel
theorem dX7_isIndex_2 : decode cX7_isIndex 2 = .ok (.if_icmp .gt 12, 3) := by decide +kernel
theorem dX7_isIndex_5 : decode cX7_isIndex 5 = .ok (.iload_n 0, 1) := by decide +kernel
theorem dX7_isIndex_6 : decode cX7_isIndex 6 = .ok (.iload_n 1, 1) := by decide +kernel
theorem dX7_isIndex_7 : decode cX7_isIndex 7 = .ok (.if_icmp .ge 7, 3) := by decide +kernel
theorem dX7_isIndex_10 : decode cX7_isIndex 10 = .ok (.iconst 1, 1) := by decide +kernel
theorem dX7_isIndex_11 : decode cX7_isIndex 11 = .ok (.goto 4, 3) := by decide +kernel
theorem dX7_isIndex_14 : decode cX7_isIndex 14 = .ok (.iconst 0, 1) := by decide +kernel
theorem dX7_isIndex_15 : decode cX7_isIndex 15 = .ok (.ireturn, 1) := by decide +kernel
theorem dX7_yes_0 : decode cX7_yes 0 = .ok (.iconst 2, 1) := by decide +kernel
theorem dX7_yes_1 : decode cX7_yes 1 = .ok (.iload_n 0, 1) := by decide +kernel
theorem dX7_yes_2 : decode cX7_yes 2 = .ok (.imul, 1) := by decide +kernel
theorem dX7_yes_3 : decode cX7_yes 3 = .ok (.ireturn, 1) := by decide +kernel
theorem dX7_no_0 : decode cX7_no 0 = .ok (.iconst 2, 1) := by decide +kernel
theorem dX7_no_1 : decode cX7_no 1 = .ok (.iload_n 0, 1) := by decide +kernel
theorem dX7_no_2 : decode cX7_no 2 = .ok (.imul, 1) := by decide +kernel
theorem dX7_no_3 : decode cX7_no 3 = .ok (.iconst 1, 1) := by decide +kernel
theorem dX7_no_4 : decode cX7_no 4 = .ok (.iadd, 1) := by decide +kernel
theorem dX7_no_5 : decode cX7_no 5 = .ok (.ireturn, 1) := by decide +kernel
theorem dX7_roomFor_0 : decode cX7_roomFor 0 = .ok (.aload_n 0, 1) := by decide +kernel
theorem dX7_roomFor_1 : decode cX7_roomFor 1 = .ok (.arraylength, 1) := by decide +kernel
theorem dX7_roomFor_2 : decode cX7_roomFor 2 = .ok (.iload_n 1, 1) := by decide +kernel
theorem dX7_roomFor_3 : decode cX7_roomFor 3 = .ok (.if_icmp .lt 7, 3) := by decide +kernel
theorem dX7_roomFor_6 : decode cX7_roomFor 6 = .ok (.aload_n 0, 1) := by decide +kernel
theorem dX7_roomFor_7 : decode cX7_roomFor 7 = .ok (.goto 13, 3) := by decide +kernel
theorem dX7_roomFor_10 : decode cX7_roomFor 10 = .ok (.iload_n 1, 1) := by decide +kernel
theorem dX7_roomFor_11 : decode cX7_roomFor 11 = .ok (.iconst 2, 1) := by decide +kernel
theorem dX7_roomFor_12 : decode cX7_roomFor 12 = .ok (.aload_n 0, 1) := by decide +kernel
theorem dX7_roomFor_13 : decode cX7_roomFor 13 = .ok (.arraylength, 1) := by decide +kernel
theorem dX7_roomFor_14 : decode cX7_roomFor 14 = .ok (.imul, 1) := by decide +kernel
theorem dX7_roomFor_15 : decode cX7_roomFor 15 = .ok (.invokestatic 235, 3) := by decide +kernel
theorem dX7_roomFor_18 : decode cX7_roomFor 18 = .ok (.newarray .int, 2) := by decide +kernel
theorem dX7_roomFor_20 : decode cX7_roomFor 20 = .ok (.areturn, 1) := by decide +kernel
