theorem dX8_init_0 : decode cX8_init 0 = .ok (.aload_n 0, 1) := by decide +kernel
theorem dX8_init_1 : decode cX8_init 1 = .ok (.invokespecial 1, 3) := by decide +kernel
theorem dX8_init_4 : decode cX8_init 4 = .ok (.aload_n 0, 1) := by decide +kernel
theorem dX8_init_5 : decode cX8_init 5 = .ok (.iconst 2, 1) := by decide +kernel
theorem dX8_init_6 : decode cX8_init 6 = .ok (.putfield 7, 3) := by decide +kernel
theorem dX8_init_9 : decode cX8_init 9 = .ok (.aload_n 0, 1) := by decide +kernel
theorem dX8_init_10 : decode cX8_init 10 = .ok (.iconst 2, 1) := by decide +kernel
theorem dX8_init_11 : decode cX8_init 11 = .ok (.putfield 13, 3) := by decide +kernel
theorem dX8_init_14 : decode cX8_init 14 = .ok (.aload_n 0, 1) := by decide +kernel
theorem dX8_init_15 : decode cX8_init 15 = .ok (.iconst 1, 1) := by decide +kernel
theorem dX8_init_16 : decode cX8_init 16 = .ok (.putfield 16, 3) := by decide +kernel
theorem dX8_init_19 : decode cX8_init 19 = .ok (.aload_n 0, 1) := by decide +kernel
theorem dX8_init_20 : decode cX8_init 20 = .ok (.bipush 8, 2) := by decide +kernel
theorem dX8_init_22 : decode cX8_init 22 = .ok (.newarray .int, 2) := by decide +kernel
theorem dX8_init_24 : decode cX8_init 24 = .ok (.putfield 19, 3) := by decide +kernel
theorem dX8_init_27 : decode cX8_init 27 = .ok (.aload_n 0, 1) := by decide +kernel
theorem dX8_init_28 : decode cX8_init 28 = .ok (.bipush 8, 2) := by decide +kernel
theorem dX8_init_30 : decode cX8_init 30 = .ok (.newarray .int, 2) := by decide +kernel
theorem dX8_init_32 : decode cX8_init 32 = .ok (.putfield 23, 3) := by decide +kernel
theorem dX8_init_35 : decode cX8_init 35 = .ok (.aload_n 0, 1) := by decide +kernel
theorem dX8_init_36 : decode cX8_init 36 = .ok (.bipush 8, 2) := by decide +kernel
theorem dX8_init_38 : decode cX8_init 38 = .ok (.newarray .int, 2) := by decide +kernel
theorem dX8_init_40 : decode cX8_init 40 = .ok (.putfield 26, 3) := by decide +kernel
theorem dX8_init_43 : decode cX8_init 43 = .ok (.aload_n 0, 1) := by decide +kernel
theorem dX8_init_44 : decode cX8_init 44 = .ok (.bipush 8, 2) := by decide +kernel
theorem dX8_init_46 : decode cX8_init 46 = .ok (.newarray .int, 2) := by decide +kernel
theorem dX8_init_48 : decode cX8_init 48 = .ok (.putfield 29, 3) := by decide +kernel
theorem dX8_init_51 : decode cX8_init 51 = .ok (.aload_n 0, 1) := by decide +kernel
theorem dX8_init_52 : decode cX8_init 52 = .ok (.bipush 8, 2) := by decide +kernel
theorem dX8_init_54 : decode cX8_init 54 = .ok (.newarray .int, 2) := by decide +kernel
theorem dX8_init_56 : decode cX8_init 56 = .ok (.putfield 32, 3) := by decide +kernel
theorem dX8_init_59 : decode cX8_init 59 = .ok (.aload_n 0, 1) := by decide +kernel
theorem dX8_init_60 : decode cX8_init 60 = .ok (.iconst 4, 1) := by decide +kernel
theorem dX8_init_61 : decode cX8_init 61 = .ok (.newarray .int, 2) := by decide +kernel
theorem dX8_init_63 : decode cX8_init 63 = .ok (.putfield 35, 3) := by decide +kernel
theorem dX8_init_66 : decode cX8_init 66 = .ok (.aload_n 0, 1) := by decide +kernel
theorem dX8_init_67 : decode cX8_init 67 = .ok (.sipush 600, 3) := by decide +kernel
theorem dX8_init_70 : decode cX8_init 70 = .ok (.newarray .int, 2) := by decide +kernel
theorem dX8_init_72 : decode cX8_init 72 = .ok (.putfield 38, 3) := by decide +kernel
theorem dX8_init_75 : decode cX8_init 75 = .ok (.aload_n 0, 1) := by decide +kernel
theorem dX8_init_76 : decode cX8_init 76 = .ok (.sipush 2400, 3) := by decide +kernel
theorem dX8_init_79 : decode cX8_init 79 = .ok (.newarray .int, 2) := by decide +kernel
theorem dX8_init_81 : decode cX8_init 81 = .ok (.putfield 41, 3) := by decide +kernel
theorem dX8_init_84 : decode cX8_init 84 = .ok (.aload_n 0, 1) := by decide +kernel
theorem dX8_init_85 : decode cX8_init 85 = .ok (.sipush 1900, 3) := by decide +kernel
theorem dX8_init_88 : decode cX8_init 88 = .ok (.newarray .int, 2) := by decide +kernel
theorem dX8_init_90 : decode cX8_init 90 = .ok (.putfield 44, 3) := by decide +kernel
theorem dX8_init_93 : decode cX8_init 93 = .ok (.aload_n 0, 1) := by decide +kernel
theorem dX8_init_94 : decode cX8_init 94 = .ok (.sipush 7600, 3) := by decide +kernel
theorem dX8_init_97 : decode cX8_init 97 = .ok (.newarray .int, 2) := by decide +kernel
theorem dX8_init_99 : decode cX8_init 99 = .ok (.putfield 47, 3) := by decide +kernel
theorem dX8_init_102 : decode cX8_init 102 = .ok (.aload_n 0, 1) := by decide +kernel
theorem dX8_init_103 : decode cX8_init 103 = .ok (.sipush 2200, 3) := by decide +kernel
theorem dX8_init_106 : decode cX8_init 106 = .ok (.newarray .int, 2) := by decide +kernel
theorem dX8_init_108 : decode cX8_init 108 = .ok (.putfield 50, 3) := by decide +kernel
theorem dX8_init_111 : decode cX8_init 111 = .ok (.aload_n 0, 1) := by decide +kernel
theorem dX8_init_112 : decode cX8_init 112 = .ok (.sipush 2200, 3) := by decide +kernel
theorem dX8_init_115 : decode cX8_init 115 = .ok (.newarray .int, 2) := by decide +kernel
theorem dX8_init_117 : decode cX8_init 117 = .ok (.putfield 53, 3) := by decide +kernel
theorem dX8_init_120 : decode cX8_init 120 = .ok (.aload_n 0, 1) := by decide +kernel
theorem dX8_init_121 : decode cX8_init 121 = .ok (.iconst 3, 1) := by decide +kernel
theorem dX8_init_122 : decode cX8_init 122 = .ok (.newarray .int, 2) := by decide +kernel
theorem dX8_init_124 : decode cX8_init 124 = .ok (.putfield 56, 3) := by decide +kernel
theorem dX8_init_127 : decode cX8_init 127 = .ok (.aload_n 0, 1) := by decide +kernel
theorem dX8_init_128 : decode cX8_init 128 = .ok (.iconst 4, 1) := by decide +kernel
theorem dX8_init_129 : decode cX8_init 129 = .ok (.newarray .int, 2) := by decide +kernel
theorem dX8_init_131 : decode cX8_init 131 = .ok (.putfield 59, 3) := by decide +kernel
theorem dX8_init_134 : decode cX8_init 134 = .ok (.aload_n 0, 1) := by decide +kernel
theorem dX8_init_135 : decode cX8_init 135 = .ok (.iconst 4, 1) := by decide +kernel
theorem dX8_init_136 : decode cX8_init 136 = .ok (.newarray .int, 2) := by decide +kernel
theorem dX8_init_138 : decode cX8_init 138 = .ok (.putfield 62, 3) := by decide +kernel
theorem dX8_init_141 : decode cX8_init 141 = .ok (.aload_n 0, 1) := by decide +kernel
theorem dX8_init_142 : decode cX8_init 142 = .ok (.bipush 16, 2) := by decide +kernel
theorem dX8_init_144 : decode cX8_init 144 = .ok (.newarray .int, 2) := by decide +kernel
theorem dX8_init_146 : decode cX8_init 146 = .ok (.putfield 65, 3) := by decide +kernel
theorem dX8_init_149 : decode cX8_init 149 = .ok (.aload_n 0, 1) := by decide +kernel
theorem dX8_init_150 : decode cX8_init 150 = .ok (.sipush 170, 3) := by decide +kernel
theorem dX8_init_153 : decode cX8_init 153 = .ok (.newarray .boolean, 2) := by decide +kernel
theorem dX8_init_155 : decode cX8_init 155 = .ok (.putfield 68, 3) := by decide +kernel
theorem dX8_init_158 : decode cX8_init 158 = .ok (.aload_n 0, 1) := by decide +kernel
theorem dX8_init_159 : decode cX8_init 159 = .ok (.ldc 72, 2) := by decide +kernel
theorem dX8_init_161 : decode cX8_init 161 = .ok (.newarray .int, 2) := by decide +kernel
theorem dX8_init_163 : decode cX8_init 163 = .ok (.putfield 73, 3) := by decide +kernel
theorem dX8_init_166 : decode cX8_init 166 = .ok (.aload_n 0, 1) := by decide +kernel
theorem dX8_init_167 : decode cX8_init 167 = .ok (.ldc 72, 2) := by decide +kernel
theorem dX8_init_169 : decode cX8_init 169 = .ok (.newarray .boolean, 2) := by decide +kernel
theorem dX8_init_171 : decode cX8_init 171 = .ok (.putfield 76, 3) := by decide +kernel
theorem dX8_init_174 : decode cX8_init 174 = .ok (.return_, 1) := by decide +kernel
theorem dX8_thrown_0 : decode cX8_thrown 0 = .ok (.aload_n 0, 1) := by decide +kernel
theorem dX8_thrown_1 : decode cX8_thrown 1 = .ok (.getfield 79, 3) := by decide +kernel
theorem dX8_thrown_4 : decode cX8_thrown 4 = .ok (.ireturn, 1) := by decide +kernel
theorem dX8_in_0 : decode cX8_in 0 = .ok (.iload_n 0, 1) := by decide +kernel
theorem dX8_in_1 : decode cX8_in 1 = .ok (.iload_n 1, 1) := by decide +kernel
theorem dX8_in_2 : decode cX8_in 2 = .ok (.if_icmp .lt 12, 3) := by decide +kernel
theorem dX8_in_5 : decode cX8_in 5 = .ok (.iload_n 0, 1) := by decide +kernel
theorem dX8_in_6 : decode cX8_in 6 = .ok (.iload_n 2, 1) := by decide +kernel
theorem dX8_in_7 : decode cX8_in 7 = .ok (.if_icmp .gt 7, 3) := by decide +kernel
theorem dX8_in_10 : decode cX8_in 10 = .ok (.iconst 1, 1) := by decide +kernel
theorem dX8_in_11 : decode cX8_in 11 = .ok (.goto 4, 3) := by decide +kernel
theorem dX8_in_14 : decode cX8_in 14 = .ok (.iconst 0, 1) := by decide +kernel
theorem dX8_in_15 : decode cX8_in 15 = .ok (.ireturn, 1) := by decide +kernel
theorem dX8_unbuild_0 : decode cX8_unbuild 0 = .ok (.aload_n 0, 1) := by decide +kernel
theorem dX8_unbuild_1 : decode cX8_unbuild 1 = .ok (.iconst 0, 1) := by decide +kernel
theorem dX8_unbuild_2 : decode cX8_unbuild 2 = .ok (.putfield 82, 3) := by decide +kernel
theorem dX8_unbuild_5 : decode cX8_unbuild 5 = .ok (.aload_n 0, 1) := by decide +kernel
theorem dX8_unbuild_6 : decode cX8_unbuild 6 = .ok (.iconst 0, 1) := by decide +kernel
theorem dX8_unbuild_7 : decode cX8_unbuild 7 = .ok (.putfield 86, 3) := by decide +kernel
theorem dX8_unbuild_10 : decode cX8_unbuild 10 = .ok (.aload_n 0, 1) := by decide +kernel
theorem dX8_unbuild_11 : decode cX8_unbuild 11 = .ok (.iconst 0, 1) := by decide +kernel
theorem dX8_unbuild_12 : decode cX8_unbuild 12 = .ok (.putfield 89, 3) := by decide +kernel
theorem dX8_unbuild_15 : decode cX8_unbuild 15 = .ok (.return_, 1) := by decide +kernel
set_option maxRecDepth 20000 in
theorem ggX8_machine_X8_in : GoodIn wsX8_machine wsX8_in := goodIn_r _ [10] (by decide +kernel) (by decide +kernel)
set_option maxRecDepth 20000 in
theorem gX8_machine_X8_in : GoodIn wsX8_machine (va_wsS RX8 92 yX8_in wsX8_in) := goodIn_app (goodIn_of _ (by decide +kernel)) ggX8_machine_X8_in
set_option maxRecDepth 20000 in
theorem ggX8_machine_X8_unbuild : GoodIn wsX8_machine wsX8_unbuild := goodIn_r _ [14, 15, 16, 17, 18, 19, 20, 21, 22, 23, 24, 25, 26, 27, 28, 29, 30, 31, 32, 33, 34, 35, 36, 37, 38, 39, 40, 41, 42, 43, 44, 45, 46, 47, 48, 49, 50, 51, 52, 53, 54] (by decide +kernel) (by decide +kernel)
set_option maxRecDepth 20000 in
theorem gX8_machine_X8_unbuild : GoodIn wsX8_machine (wsV RX8 99 RX8 yX8_unbuild wsX8_unbuild) := goodIn_app (goodIn_of _ (by decide +kernel)) ggX8_machine_X8_unbuild
theorem dX8_machine_0 : decode cX8_machine 0 = .ok (.aload_n 0, 1) := by decide +kernel
theorem dX8_machine_1 : decode cX8_machine 1 = .ok (.iconst 0, 1) := by decide +kernel
theorem dX8_machine_2 : decode cX8_machine 2 = .ok (.putfield 79, 3) := by decide +kernel
theorem dX8_machine_5 : decode cX8_machine 5 = .ok (.iload_n 1, 1) := by decide +kernel
theorem dX8_machine_6 : decode cX8_machine 6 = .ok (.iconst 2, 1) := by decide +kernel
theorem dX8_machine_7 : decode cX8_machine 7 = .ok (.iconst 3, 1) := by decide +kernel
theorem dX8_machine_8 : decode cX8_machine 8 = .ok (.invokestatic 92, 3) := by decide +kernel
theorem dX8_machine_11 : decode cX8_machine 11 = .ok (.ifCond .eq 21, 3) := by decide +kernel
theorem dX8_machine_14 : decode cX8_machine 14 = .ok (.iload_n 2, 1) := by decide +kernel
theorem dX8_machine_15 : decode cX8_machine 15 = .ok (.iconst 2, 1) := by decide +kernel
theorem dX8_machine_16 : decode cX8_machine 16 = .ok (.iconst 3, 1) := by decide +kernel
theorem dX8_machine_17 : decode cX8_machine 17 = .ok (.invokestatic 92, 3) := by decide +kernel
theorem dX8_machine_20 : decode cX8_machine 20 = .ok (.ifCond .eq 12, 3) := by decide +kernel
theorem dX8_machine_23 : decode cX8_machine 23 = .ok (.iload_n 3, 1) := by decide +kernel
theorem dX8_machine_24 : decode cX8_machine 24 = .ok (.iconst 1, 1) := by decide +kernel
theorem dX8_machine_25 : decode cX8_machine 25 = .ok (.iconst 3, 1) := by decide +kernel
theorem dX8_machine_26 : decode cX8_machine 26 = .ok (.invokestatic 92, 3) := by decide +kernel
theorem dX8_machine_29 : decode cX8_machine 29 = .ok (.ifCond .ne 5, 3) := by decide +kernel
theorem dX8_machine_32 : decode cX8_machine 32 = .ok (.iconst 0, 1) := by decide +kernel
theorem dX8_machine_33 : decode cX8_machine 33 = .ok (.ireturn, 1) := by decide +kernel
theorem dX8_machine_34 : decode cX8_machine 34 = .ok (.aload_n 0, 1) := by decide +kernel
theorem dX8_machine_35 : decode cX8_machine 35 = .ok (.iload_n 1, 1) := by decide +kernel
theorem dX8_machine_36 : decode cX8_machine 36 = .ok (.putfield 7, 3) := by decide +kernel
theorem dX8_machine_39 : decode cX8_machine 39 = .ok (.aload_n 0, 1) := by decide +kernel
theorem dX8_machine_40 : decode cX8_machine 40 = .ok (.iload_n 2, 1) := by decide +kernel
theorem dX8_machine_41 : decode cX8_machine 41 = .ok (.putfield 13, 3) := by decide +kernel
theorem dX8_machine_44 : decode cX8_machine 44 = .ok (.aload_n 0, 1) := by decide +kernel
theorem dX8_machine_45 : decode cX8_machine 45 = .ok (.iload_n 3, 1) := by decide +kernel
theorem dX8_machine_46 : decode cX8_machine 46 = .ok (.putfield 16, 3) := by decide +kernel
theorem dX8_machine_49 : decode cX8_machine 49 = .ok (.aload_n 0, 1) := by decide +kernel
theorem dX8_machine_50 : decode cX8_machine 50 = .ok (.iconst 0, 1) := by decide +kernel
theorem dX8_machine_51 : decode cX8_machine 51 = .ok (.putfield 96, 3) := by decide +kernel
theorem dX8_machine_54 : decode cX8_machine 54 = .ok (.iconst 0, 1) := by decide +kernel
theorem dX8_machine_55 : decode cX8_machine 55 = .ok (.istore 4, 2) := by decide +kernel
theorem dX8_machine_57 : decode cX8_machine 57 = .ok (.iload 4, 2) := by decide +kernel
theorem dX8_machine_59 : decode cX8_machine 59 = .ok (.iconst 4, 1) := by decide +kernel
theorem dX8_machine_60 : decode cX8_machine 60 = .ok (.if_icmp .ge 17, 3) := by decide +kernel
theorem dX8_machine_63 : decode cX8_machine 63 = .ok (.aload_n 0, 1) := by decide +kernel
theorem dX8_machine_64 : decode cX8_machine 64 = .ok (.getfield 35, 3) := by decide +kernel
theorem dX8_machine_67 : decode cX8_machine 67 = .ok (.iload 4, 2) := by decide +kernel
theorem dX8_machine_69 : decode cX8_machine 69 = .ok (.iconst 0, 1) := by decide +kernel
theorem dX8_machine_70 : decode cX8_machine 70 = .ok (.iastore, 1) := by decide +kernel
theorem dX8_machine_71 : decode cX8_machine 71 = .ok (.iinc 4 1, 3) := by decide +kernel
theorem dX8_machine_74 : decode cX8_machine 74 = .ok (.goto (-17), 3) := by decide +kernel
theorem dX8_machine_77 : decode cX8_machine 77 = .ok (.aload_n 0, 1) := by decide +kernel
theorem dX8_machine_78 : decode cX8_machine 78 = .ok (.invokevirtual 99, 3) := by decide +kernel
theorem dX8_machine_81 : decode cX8_machine 81 = .ok (.iconst 1, 1) := by decide +kernel
theorem dX8_machine_82 : decode cX8_machine 82 = .ok (.ireturn, 1) := by decide +kernel
set_option maxRecDepth 20000 in
theorem ggX8_rule_X8_in : GoodIn wsX8_rule wsX8_in := goodIn_r _ [13] (by decide +kernel) (by decide +kernel)
set_option maxRecDepth 20000 in
theorem gX8_rule_X8_in : GoodIn wsX8_rule (va_wsS RX8 92 yX8_in wsX8_in) := goodIn_app (goodIn_of _ (by decide +kernel)) ggX8_rule_X8_in
set_option maxRecDepth 20000 in
theorem ggX8_rule_X8_unbuild : GoodIn wsX8_rule wsX8_unbuild := goodIn_r _ [17, 18, 19, 20, 21, 22, 23, 24, 25, 26, 27, 28, 29, 30, 31, 32, 33, 34, 35, 36, 37, 38, 39, 40, 41, 42, 43, 44, 45, 46, 47, 48, 49, 50, 51, 52, 53, 54, 55, 56, 57] (by decide +kernel) (by decide +kernel)
set_option maxRecDepth 20000 in
theorem gX8_rule_X8_unbuild : GoodIn wsX8_rule (wsV RX8 99 RX8 yX8_unbuild wsX8_unbuild) := goodIn_app (goodIn_of _ (by decide +kernel)) ggX8_rule_X8_unbuild
theorem dX8_rule_0 : decode cX8_rule 0 = .ok (.aload_n 0, 1) := by decide +kernel
theorem dX8_rule_1 : decode cX8_rule 1 = .ok (.iconst 0, 1) := by decide +kernel
theorem dX8_rule_2 : decode cX8_rule 2 = .ok (.putfield 79, 3) := by decide +kernel
theorem dX8_rule_5 : decode cX8_rule 5 = .ok (.aload_n 0, 1) := by decide +kernel
theorem dX8_rule_6 : decode cX8_rule 6 = .ok (.getfield 96, 3) := by decide +kernel
theorem dX8_rule_9 : decode cX8_rule 9 = .ok (.bipush 8, 2) := by decide +kernel
theorem dX8_rule_11 : decode cX8_rule 11 = .ok (.if_icmp .eq 70, 3) := by decide +kernel
theorem dX8_rule_14 : decode cX8_rule 14 = .ok (.iload_n 1, 1) := by decide +kernel
theorem dX8_rule_15 : decode cX8_rule 15 = .ok (.iconst 0, 1) := by decide +kernel
theorem dX8_rule_16 : decode cX8_rule 16 = .ok (.aload_n 0, 1) := by decide +kernel
theorem dX8_rule_17 : decode cX8_rule 17 = .ok (.getfield 7, 3) := by decide +kernel
theorem dX8_rule_20 : decode cX8_rule 20 = .ok (.iconst 2, 1) := by decide +kernel
theorem dX8_rule_21 : decode cX8_rule 21 = .ok (.isub, 1) := by decide +kernel
theorem dX8_rule_22 : decode cX8_rule 22 = .ok (.invokestatic 92, 3) := by decide +kernel
theorem dX8_rule_25 : decode cX8_rule 25 = .ok (.ifCond .eq 56, 3) := by decide +kernel
theorem dX8_rule_28 : decode cX8_rule 28 = .ok (.iload_n 2, 1) := by decide +kernel
theorem dX8_rule_29 : decode cX8_rule 29 = .ok (.iconst 0, 1) := by decide +kernel
theorem dX8_rule_30 : decode cX8_rule 30 = .ok (.aload_n 0, 1) := by decide +kernel
theorem dX8_rule_31 : decode cX8_rule 31 = .ok (.getfield 13, 3) := by decide +kernel
theorem dX8_rule_34 : decode cX8_rule 34 = .ok (.iconst 1, 1) := by decide +kernel
theorem dX8_rule_35 : decode cX8_rule 35 = .ok (.isub, 1) := by decide +kernel
theorem dX8_rule_36 : decode cX8_rule 36 = .ok (.invokestatic 92, 3) := by decide +kernel
theorem dX8_rule_39 : decode cX8_rule 39 = .ok (.ifCond .eq 42, 3) := by decide +kernel
theorem dX8_rule_42 : decode cX8_rule 42 = .ok (.iload_n 3, 1) := by decide +kernel
theorem dX8_rule_43 : decode cX8_rule 43 = .ok (.iconst 0, 1) := by decide +kernel
theorem dX8_rule_44 : decode cX8_rule 44 = .ok (.aload_n 0, 1) := by decide +kernel
theorem dX8_rule_45 : decode cX8_rule 45 = .ok (.getfield 7, 3) := by decide +kernel
theorem dX8_rule_48 : decode cX8_rule 48 = .ok (.iconst 1, 1) := by decide +kernel
theorem dX8_rule_49 : decode cX8_rule 49 = .ok (.isub, 1) := by decide +kernel
theorem dX8_rule_50 : decode cX8_rule 50 = .ok (.invokestatic 92, 3) := by decide +kernel
theorem dX8_rule_53 : decode cX8_rule 53 = .ok (.ifCond .eq 28, 3) := by decide +kernel
theorem dX8_rule_56 : decode cX8_rule 56 = .ok (.iload 4, 2) := by decide +kernel
theorem dX8_rule_58 : decode cX8_rule 58 = .ok (.iconst 0, 1) := by decide +kernel
theorem dX8_rule_59 : decode cX8_rule 59 = .ok (.aload_n 0, 1) := by decide +kernel
theorem dX8_rule_60 : decode cX8_rule 60 = .ok (.getfield 13, 3) := by decide +kernel
theorem dX8_rule_63 : decode cX8_rule 63 = .ok (.iconst 1, 1) := by decide +kernel
theorem dX8_rule_64 : decode cX8_rule 64 = .ok (.isub, 1) := by decide +kernel
theorem dX8_rule_65 : decode cX8_rule 65 = .ok (.invokestatic 92, 3) := by decide +kernel
theorem dX8_rule_68 : decode cX8_rule 68 = .ok (.ifCond .eq 13, 3) := by decide +kernel
theorem dX8_rule_71 : decode cX8_rule 71 = .ok (.iload 5, 2) := by decide +kernel
theorem dX8_rule_73 : decode cX8_rule 73 = .ok (.iconst 0, 1) := by decide +kernel
theorem dX8_rule_74 : decode cX8_rule 74 = .ok (.iconst 2, 1) := by decide +kernel
theorem dX8_rule_75 : decode cX8_rule 75 = .ok (.invokestatic 92, 3) := by decide +kernel
theorem dX8_rule_78 : decode cX8_rule 78 = .ok (.ifCond .ne 5, 3) := by decide +kernel
theorem dX8_rule_81 : decode cX8_rule 81 = .ok (.iconst (-1), 1) := by decide +kernel
theorem dX8_rule_82 : decode cX8_rule 82 = .ok (.ireturn, 1) := by decide +kernel
theorem dX8_rule_83 : decode cX8_rule 83 = .ok (.aload_n 0, 1) := by decide +kernel
theorem dX8_rule_84 : decode cX8_rule 84 = .ok (.getfield 19, 3) := by decide +kernel
theorem dX8_rule_87 : decode cX8_rule 87 = .ok (.aload_n 0, 1) := by decide +kernel
theorem dX8_rule_88 : decode cX8_rule 88 = .ok (.getfield 96, 3) := by decide +kernel
theorem dX8_rule_91 : decode cX8_rule 91 = .ok (.iload_n 1, 1) := by decide +kernel
theorem dX8_rule_92 : decode cX8_rule 92 = .ok (.iastore, 1) := by decide +kernel
theorem dX8_rule_93 : decode cX8_rule 93 = .ok (.aload_n 0, 1) := by decide +kernel
theorem dX8_rule_94 : decode cX8_rule 94 = .ok (.getfield 23, 3) := by decide +kernel
theorem dX8_rule_97 : decode cX8_rule 97 = .ok (.aload_n 0, 1) := by decide +kernel
theorem dX8_rule_98 : decode cX8_rule 98 = .ok (.getfield 96, 3) := by decide +kernel
theorem dX8_rule_101 : decode cX8_rule 101 = .ok (.iload_n 2, 1) := by decide +kernel
theorem dX8_rule_102 : decode cX8_rule 102 = .ok (.iastore, 1) := by decide +kernel
theorem dX8_rule_103 : decode cX8_rule 103 = .ok (.aload_n 0, 1) := by decide +kernel
theorem dX8_rule_104 : decode cX8_rule 104 = .ok (.getfield 26, 3) := by decide +kernel
theorem dX8_rule_107 : decode cX8_rule 107 = .ok (.aload_n 0, 1) := by decide +kernel
theorem dX8_rule_108 : decode cX8_rule 108 = .ok (.getfield 96, 3) := by decide +kernel
theorem dX8_rule_111 : decode cX8_rule 111 = .ok (.iload_n 3, 1) := by decide +kernel
theorem dX8_rule_112 : decode cX8_rule 112 = .ok (.iastore, 1) := by decide +kernel
theorem dX8_rule_113 : decode cX8_rule 113 = .ok (.aload_n 0, 1) := by decide +kernel
theorem dX8_rule_114 : decode cX8_rule 114 = .ok (.getfield 29, 3) := by decide +kernel
theorem dX8_rule_117 : decode cX8_rule 117 = .ok (.aload_n 0, 1) := by decide +kernel
theorem dX8_rule_118 : decode cX8_rule 118 = .ok (.getfield 96, 3) := by decide +kernel
theorem dX8_rule_121 : decode cX8_rule 121 = .ok (.iload 4, 2) := by decide +kernel
theorem dX8_rule_123 : decode cX8_rule 123 = .ok (.iastore, 1) := by decide +kernel
theorem dX8_rule_124 : decode cX8_rule 124 = .ok (.aload_n 0, 1) := by decide +kernel
theorem dX8_rule_125 : decode cX8_rule 125 = .ok (.getfield 32, 3) := by decide +kernel
theorem dX8_rule_128 : decode cX8_rule 128 = .ok (.aload_n 0, 1) := by decide +kernel
theorem dX8_rule_129 : decode cX8_rule 129 = .ok (.getfield 96, 3) := by decide +kernel
theorem dX8_rule_132 : decode cX8_rule 132 = .ok (.iload 5, 2) := by decide +kernel
theorem dX8_rule_134 : decode cX8_rule 134 = .ok (.iconst 1, 1) := by decide +kernel
theorem dX8_rule_135 : decode cX8_rule 135 = .ok (.isub, 1) := by decide +kernel
theorem dX8_rule_136 : decode cX8_rule 136 = .ok (.iastore, 1) := by decide +kernel
theorem dX8_rule_137 : decode cX8_rule 137 = .ok (.aload_n 0, 1) := by decide +kernel
theorem dX8_rule_138 : decode cX8_rule 138 = .ok (.dup, 1) := by decide +kernel
theorem dX8_rule_139 : decode cX8_rule 139 = .ok (.getfield 96, 3) := by decide +kernel
theorem dX8_rule_142 : decode cX8_rule 142 = .ok (.iconst 1, 1) := by decide +kernel
theorem dX8_rule_143 : decode cX8_rule 143 = .ok (.iadd, 1) := by decide +kernel
theorem dX8_rule_144 : decode cX8_rule 144 = .ok (.putfield 96, 3) := by decide +kernel
theorem dX8_rule_147 : decode cX8_rule 147 = .ok (.aload_n 0, 1) := by decide +kernel
theorem dX8_rule_148 : decode cX8_rule 148 = .ok (.invokevirtual 99, 3) := by decide +kernel
theorem dX8_rule_151 : decode cX8_rule 151 = .ok (.aload_n 0, 1) := by decide +kernel
theorem dX8_rule_152 : decode cX8_rule 152 = .ok (.getfield 96, 3) := by decide +kernel
theorem dX8_rule_155 : decode cX8_rule 155 = .ok (.iconst 1, 1) := by decide +kernel
theorem dX8_rule_156 : decode cX8_rule 156 = .ok (.isub, 1) := by decide +kernel
theorem dX8_rule_157 : decode cX8_rule 157 = .ok (.ireturn, 1) := by decide +kernel
set_option maxRecDepth 20000 in
theorem ggX8_input_X8_in : GoodIn wsX8_input wsX8_in := goodIn_r _ [8] (by decide +kernel) (by decide +kernel)
set_option maxRecDepth 20000 in
theorem gX8_input_X8_in : GoodIn wsX8_input (va_wsS RX8 92 yX8_in wsX8_in) := goodIn_app (goodIn_of _ (by decide +kernel)) ggX8_input_X8_in
set_option maxRecDepth 20000 in
theorem ggX8_input_X8_unbuild : GoodIn wsX8_input wsX8_unbuild := goodIn_r _ [12, 13, 14, 15, 16, 17, 18, 19, 20, 21, 22, 23, 24, 25, 26, 27, 28, 29, 30, 31, 32, 33, 34, 35, 36, 37, 38, 39, 40, 41, 42, 43, 44, 45, 46, 47, 48, 49, 50, 51, 52] (by decide +kernel) (by decide +kernel)
set_option maxRecDepth 20000 in
theorem gX8_input_X8_unbuild : GoodIn wsX8_input (wsV RX8 99 RX8 yX8_unbuild wsX8_unbuild) := goodIn_app (goodIn_of _ (by decide +kernel)) ggX8_input_X8_unbuild
theorem dX8_input_0 : decode cX8_input 0 = .ok (.aload_n 0, 1) := by decide +kernel
theorem dX8_input_1 : decode cX8_input 1 = .ok (.iconst 0, 1) := by decide +kernel
theorem dX8_input_2 : decode cX8_input 2 = .ok (.putfield 79, 3) := by decide +kernel
theorem dX8_input_5 : decode cX8_input 5 = .ok (.iload_n 1, 1) := by decide +kernel
theorem dX8_input_6 : decode cX8_input 6 = .ok (.iconst 0, 1) := by decide +kernel
theorem dX8_input_7 : decode cX8_input 7 = .ok (.aload_n 0, 1) := by decide +kernel
theorem dX8_input_8 : decode cX8_input 8 = .ok (.getfield 16, 3) := by decide +kernel
theorem dX8_input_11 : decode cX8_input 11 = .ok (.invokestatic 92, 3) := by decide +kernel
theorem dX8_input_14 : decode cX8_input 14 = .ok (.ifCond .eq 17, 3) := by decide +kernel
theorem dX8_input_17 : decode cX8_input 17 = .ok (.iload_n 2, 1) := by decide +kernel
theorem dX8_input_18 : decode cX8_input 18 = .ok (.iconst 0, 1) := by decide +kernel
theorem dX8_input_19 : decode cX8_input 19 = .ok (.aload_n 0, 1) := by decide +kernel
theorem dX8_input_20 : decode cX8_input 20 = .ok (.getfield 13, 3) := by decide +kernel
theorem dX8_input_23 : decode cX8_input 23 = .ok (.iconst 1, 1) := by decide +kernel
theorem dX8_input_24 : decode cX8_input 24 = .ok (.isub, 1) := by decide +kernel
theorem dX8_input_25 : decode cX8_input 25 = .ok (.invokestatic 92, 3) := by decide +kernel
theorem dX8_input_28 : decode cX8_input 28 = .ok (.ifCond .ne 5, 3) := by decide +kernel
theorem dX8_input_31 : decode cX8_input 31 = .ok (.iconst 0, 1) := by decide +kernel
theorem dX8_input_32 : decode cX8_input 32 = .ok (.ireturn, 1) := by decide +kernel
theorem dX8_input_33 : decode cX8_input 33 = .ok (.aload_n 0, 1) := by decide +kernel
theorem dX8_input_34 : decode cX8_input 34 = .ok (.getfield 35, 3) := by decide +kernel
theorem dX8_input_37 : decode cX8_input 37 = .ok (.iload_n 1, 1) := by decide +kernel
theorem dX8_input_38 : decode cX8_input 38 = .ok (.iload_n 2, 1) := by decide +kernel
theorem dX8_input_39 : decode cX8_input 39 = .ok (.iastore, 1) := by decide +kernel
theorem dX8_input_40 : decode cX8_input 40 = .ok (.aload_n 0, 1) := by decide +kernel
theorem dX8_input_41 : decode cX8_input 41 = .ok (.invokevirtual 99, 3) := by decide +kernel
theorem dX8_input_44 : decode cX8_input 44 = .ok (.iconst 1, 1) := by decide +kernel
theorem dX8_input_45 : decode cX8_input 45 = .ok (.ireturn, 1) := by decide +kernel
theorem dX8_c_0 : decode cX8_c 0 = .ok (.iload_n 1, 1) := by decide +kernel
theorem dX8_c_1 : decode cX8_c 1 = .ok (.aload_n 0, 1) := by decide +kernel
theorem dX8_c_2 : decode cX8_c 2 = .ok (.getfield 16, 3) := by decide +kernel
theorem dX8_c_5 : decode cX8_c 5 = .ok (.iconst 1, 1) := by decide +kernel
theorem dX8_c_6 : decode cX8_c 6 = .ok (.iadd, 1) := by decide +kernel
theorem dX8_c_7 : decode cX8_c 7 = .ok (.imul, 1) := by decide +kernel
theorem dX8_c_8 : decode cX8_c 8 = .ok (.iload_n 2, 1) := by decide +kernel
theorem dX8_c_9 : decode cX8_c 9 = .ok (.iadd, 1) := by decide +kernel
theorem dX8_c_10 : decode cX8_c 10 = .ok (.aload_n 0, 1) := by decide +kernel
theorem dX8_c_11 : decode cX8_c 11 = .ok (.getfield 13, 3) := by decide +kernel
theorem dX8_c_14 : decode cX8_c 14 = .ok (.imul, 1) := by decide +kernel
theorem dX8_c_15 : decode cX8_c 15 = .ok (.iload_n 3, 1) := by decide +kernel
theorem dX8_c_16 : decode cX8_c 16 = .ok (.iadd, 1) := by decide +kernel
theorem dX8_c_17 : decode cX8_c 17 = .ok (.ireturn, 1) := by decide +kernel
set_option maxRecDepth 20000 in
theorem ggX8_h_X8_c : GoodIn wsX8_h wsX8_c := goodIn_r _ [6, 1, 7, 8, 9, 10, 11, 12, 13, 14, 15, 16, 17, 18, 19, 20, 21, 22, 23, 24, 25, 26, 27, 28, 29, 30, 31, 32, 33, 34, 35, 36, 37, 38, 39, 40, 41, 42, 43, 44] (by decide +kernel) (by decide +kernel)
set_option maxRecDepth 20000 in
theorem gX8_h_X8_c : GoodIn wsX8_h (wsV RX8 102 RX8 yX8_c wsX8_c) := goodIn_app (goodIn_of _ (by decide +kernel)) ggX8_h_X8_c
theorem dX8_h_0 : decode cX8_h 0 = .ok (.aload_n 0, 1) := by decide +kernel
theorem dX8_h_1 : decode cX8_h 1 = .ok (.aload_n 0, 1) := by decide +kernel
theorem dX8_h_2 : decode cX8_h 2 = .ok (.getfield 16, 3) := by decide +kernel
theorem dX8_h_5 : decode cX8_h 5 = .ok (.iconst 1, 1) := by decide +kernel
theorem dX8_h_6 : decode cX8_h 6 = .ok (.iadd, 1) := by decide +kernel
theorem dX8_h_7 : decode cX8_h 7 = .ok (.iconst 0, 1) := by decide +kernel
theorem dX8_h_8 : decode cX8_h 8 = .ok (.iconst 0, 1) := by decide +kernel
theorem dX8_h_9 : decode cX8_h 9 = .ok (.invokevirtual 102, 3) := by decide +kernel
theorem dX8_h_12 : decode cX8_h 12 = .ok (.iload_n 1, 1) := by decide +kernel
theorem dX8_h_13 : decode cX8_h 13 = .ok (.aload_n 0, 1) := by decide +kernel
theorem dX8_h_14 : decode cX8_h 14 = .ok (.getfield 16, 3) := by decide +kernel
theorem dX8_h_17 : decode cX8_h 17 = .ok (.iconst 1, 1) := by decide +kernel
theorem dX8_h_18 : decode cX8_h 18 = .ok (.iadd, 1) := by decide +kernel
theorem dX8_h_19 : decode cX8_h 19 = .ok (.imul, 1) := by decide +kernel
theorem dX8_h_20 : decode cX8_h 20 = .ok (.iadd, 1) := by decide +kernel
theorem dX8_h_21 : decode cX8_h 21 = .ok (.iload_n 2, 1) := by decide +kernel
theorem dX8_h_22 : decode cX8_h 22 = .ok (.iadd, 1) := by decide +kernel
theorem dX8_h_23 : decode cX8_h 23 = .ok (.ireturn, 1) := by decide +kernel
set_option maxRecDepth 20000 in
theorem ggX8_q_X8_h : GoodIn wsX8_q wsX8_h := goodIn_r _ [7, 1, 8, 9, 10, 6, 11, 12, 13, 14, 15, 16, 17, 18, 19, 20, 21, 22, 23, 24, 25, 26, 27, 28, 29, 30, 31, 32, 33, 34, 35, 36, 37, 38, 39, 40, 41, 42, 43, 44, 45, 46, 47, 48, 49] (by decide +kernel) (by decide +kernel)
set_option maxRecDepth 20000 in
theorem gX8_q_X8_h : GoodIn wsX8_q (wsV RX8 106 RX8 yX8_h wsX8_h) := goodIn_app (goodIn_of _ (by decide +kernel)) ggX8_q_X8_h
theorem dX8_q_0 : decode cX8_q 0 = .ok (.aload_n 0, 1) := by decide +kernel
theorem dX8_q_1 : decode cX8_q 1 = .ok (.aload_n 0, 1) := by decide +kernel
theorem dX8_q_2 : decode cX8_q 2 = .ok (.getfield 16, 3) := by decide +kernel
theorem dX8_q_5 : decode cX8_q 5 = .ok (.iconst 1, 1) := by decide +kernel
theorem dX8_q_6 : decode cX8_q 6 = .ok (.iadd, 1) := by decide +kernel
theorem dX8_q_7 : decode cX8_q 7 = .ok (.iconst 0, 1) := by decide +kernel
theorem dX8_q_8 : decode cX8_q 8 = .ok (.invokevirtual 106, 3) := by decide +kernel
theorem dX8_q_11 : decode cX8_q 11 = .ok (.iload_n 1, 1) := by decide +kernel
theorem dX8_q_12 : decode cX8_q 12 = .ok (.aload_n 0, 1) := by decide +kernel
theorem dX8_q_13 : decode cX8_q 13 = .ok (.getfield 7, 3) := by decide +kernel
theorem dX8_q_16 : decode cX8_q 16 = .ok (.imul, 1) := by decide +kernel
theorem dX8_q_17 : decode cX8_q 17 = .ok (.iadd, 1) := by decide +kernel
theorem dX8_q_18 : decode cX8_q 18 = .ok (.iload_n 2, 1) := by decide +kernel
theorem dX8_q_19 : decode cX8_q 19 = .ok (.iadd, 1) := by decide +kernel
theorem dX8_q_20 : decode cX8_q 20 = .ok (.ireturn, 1) := by decide +kernel
set_option maxRecDepth 20000 in
theorem ggX8_k_X8_q : GoodIn wsX8_k wsX8_q := goodIn_r _ [7, 1, 8, 9, 10, 11, 6, 12, 13, 14, 15, 16, 17, 18, 19, 20, 21, 22, 23, 24, 25, 26, 27, 28, 29, 30, 31, 32, 33, 34, 35, 36, 37, 38, 39, 40, 41, 42, 43, 44, 45, 46, 47, 48, 49, 50, 51, 52, 53, 54] (by decide +kernel) (by decide +kernel)
set_option maxRecDepth 20000 in
theorem gX8_k_X8_q : GoodIn wsX8_k (wsV RX8 110 RX8 yX8_q wsX8_q) := goodIn_app (goodIn_of _ (by decide +kernel)) ggX8_k_X8_q
theorem dX8_k_0 : decode cX8_k 0 = .ok (.aload_n 0, 1) := by decide +kernel
theorem dX8_k_1 : decode cX8_k 1 = .ok (.aload_n 0, 1) := by decide +kernel
theorem dX8_k_2 : decode cX8_k 2 = .ok (.getfield 16, 3) := by decide +kernel
theorem dX8_k_5 : decode cX8_k 5 = .ok (.iconst 1, 1) := by decide +kernel
theorem dX8_k_6 : decode cX8_k 6 = .ok (.iadd, 1) := by decide +kernel
theorem dX8_k_7 : decode cX8_k 7 = .ok (.iconst 0, 1) := by decide +kernel
theorem dX8_k_8 : decode cX8_k 8 = .ok (.invokevirtual 110, 3) := by decide +kernel
theorem dX8_k_11 : decode cX8_k 11 = .ok (.iload_n 1, 1) := by decide +kernel
theorem dX8_k_12 : decode cX8_k 12 = .ok (.aload_n 0, 1) := by decide +kernel
theorem dX8_k_13 : decode cX8_k 13 = .ok (.getfield 96, 3) := by decide +kernel
theorem dX8_k_16 : decode cX8_k 16 = .ok (.iconst 1, 1) := by decide +kernel
theorem dX8_k_17 : decode cX8_k 17 = .ok (.iadd, 1) := by decide +kernel
theorem dX8_k_18 : decode cX8_k 18 = .ok (.imul, 1) := by decide +kernel
theorem dX8_k_19 : decode cX8_k 19 = .ok (.iadd, 1) := by decide +kernel
theorem dX8_k_20 : decode cX8_k 20 = .ok (.iload_n 2, 1) := by decide +kernel
theorem dX8_k_21 : decode cX8_k 21 = .ok (.iadd, 1) := by decide +kernel
theorem dX8_k_22 : decode cX8_k 22 = .ok (.ireturn, 1) := by decide +kernel
theorem dX8_is_0 : decode cX8_is 0 = .ok (.aload_n 0, 1) := by decide +kernel
theorem dX8_is_1 : decode cX8_is 1 = .ok (.getfield 41, 3) := by decide +kernel
theorem dX8_is_4 : decode cX8_is 4 = .ok (.aload_n 0, 1) := by decide +kernel
theorem dX8_is_5 : decode cX8_is 5 = .ok (.getfield 113, 3) := by decide +kernel
theorem dX8_is_8 : decode cX8_is 8 = .ok (.iconst 2, 1) := by decide +kernel
theorem dX8_is_9 : decode cX8_is 9 = .ok (.iload_n 1, 1) := by decide +kernel
theorem dX8_is_10 : decode cX8_is 10 = .ok (.imul, 1) := by decide +kernel
theorem dX8_is_11 : decode cX8_is 11 = .ok (.iastore, 1) := by decide +kernel
theorem dX8_is_12 : decode cX8_is 12 = .ok (.aload_n 0, 1) := by decide +kernel
theorem dX8_is_13 : decode cX8_is 13 = .ok (.dup, 1) := by decide +kernel
theorem dX8_is_14 : decode cX8_is 14 = .ok (.getfield 113, 3) := by decide +kernel
theorem dX8_is_17 : decode cX8_is 17 = .ok (.iconst 1, 1) := by decide +kernel
theorem dX8_is_18 : decode cX8_is 18 = .ok (.iadd, 1) := by decide +kernel
theorem dX8_is_19 : decode cX8_is 19 = .ok (.putfield 113, 3) := by decide +kernel
theorem dX8_is_22 : decode cX8_is 22 = .ok (.return_, 1) := by decide +kernel
theorem dX8_not_0 : decode cX8_not 0 = .ok (.aload_n 0, 1) := by decide +kernel
theorem dX8_not_1 : decode cX8_not 1 = .ok (.getfield 41, 3) := by decide +kernel
theorem dX8_not_4 : decode cX8_not 4 = .ok (.aload_n 0, 1) := by decide +kernel
theorem dX8_not_5 : decode cX8_not 5 = .ok (.getfield 113, 3) := by decide +kernel
theorem dX8_not_8 : decode cX8_not 8 = .ok (.iconst 2, 1) := by decide +kernel
theorem dX8_not_9 : decode cX8_not 9 = .ok (.iload_n 1, 1) := by decide +kernel
theorem dX8_not_10 : decode cX8_not 10 = .ok (.imul, 1) := by decide +kernel
theorem dX8_not_11 : decode cX8_not 11 = .ok (.iconst 1, 1) := by decide +kernel
theorem dX8_not_12 : decode cX8_not 12 = .ok (.iadd, 1) := by decide +kernel
theorem dX8_not_13 : decode cX8_not 13 = .ok (.iastore, 1) := by decide +kernel
theorem dX8_not_14 : decode cX8_not 14 = .ok (.aload_n 0, 1) := by decide +kernel
theorem dX8_not_15 : decode cX8_not 15 = .ok (.dup, 1) := by decide +kernel
theorem dX8_not_16 : decode cX8_not 16 = .ok (.getfield 113, 3) := by decide +kernel
theorem dX8_not_19 : decode cX8_not 19 = .ok (.iconst 1, 1) := by decide +kernel
theorem dX8_not_20 : decode cX8_not 20 = .ok (.iadd, 1) := by decide +kernel
theorem dX8_not_21 : decode cX8_not 21 = .ok (.putfield 113, 3) := by decide +kernel
theorem dX8_not_24 : decode cX8_not 24 = .ok (.return_, 1) := by decide +kernel
theorem dX8_close_0 : decode cX8_close 0 = .ok (.aload_n 0, 1) := by decide +kernel
theorem dX8_close_1 : decode cX8_close 1 = .ok (.dup, 1) := by decide +kernel
theorem dX8_close_2 : decode cX8_close 2 = .ok (.getfield 116, 3) := by decide +kernel
theorem dX8_close_5 : decode cX8_close 5 = .ok (.iconst 1, 1) := by decide +kernel
theorem dX8_close_6 : decode cX8_close 6 = .ok (.iadd, 1) := by decide +kernel
theorem dX8_close_7 : decode cX8_close 7 = .ok (.putfield 116, 3) := by decide +kernel
theorem dX8_close_10 : decode cX8_close 10 = .ok (.aload_n 0, 1) := by decide +kernel
theorem dX8_close_11 : decode cX8_close 11 = .ok (.getfield 38, 3) := by decide +kernel
theorem dX8_close_14 : decode cX8_close 14 = .ok (.aload_n 0, 1) := by decide +kernel
theorem dX8_close_15 : decode cX8_close 15 = .ok (.getfield 116, 3) := by decide +kernel
theorem dX8_close_18 : decode cX8_close 18 = .ok (.aload_n 0, 1) := by decide +kernel
theorem dX8_close_19 : decode cX8_close 19 = .ok (.getfield 113, 3) := by decide +kernel
theorem dX8_close_22 : decode cX8_close 22 = .ok (.iastore, 1) := by decide +kernel
theorem dX8_close_23 : decode cX8_close 23 = .ok (.return_, 1) := by decide +kernel
set_option maxRecDepth 20000 in
theorem ggX8_justOne_X8_is : GoodIn wsX8_justOne wsX8_is := goodIn_r _ [5, 6, 7, 18, 19, 20, 21, 22, 23, 24, 25, 26, 27, 28, 29, 30, 31, 32, 33, 34, 35, 36, 37, 38, 39, 40, 41, 42, 43, 44, 45, 46, 47, 48, 49, 50, 51, 52, 53, 54] (by decide +kernel) (by decide +kernel)
set_option maxRecDepth 20000 in
theorem gX8_justOne_X8_is : GoodIn wsX8_justOne (wsV RX8 119 RX8 yX8_is wsX8_is) := goodIn_app (goodIn_of _ (by decide +kernel)) ggX8_justOne_X8_is
set_option maxRecDepth 20000 in
theorem ggX8_justOne_X8_close : GoodIn wsX8_justOne wsX8_close := goodIn_r _ [11, 12, 13, 7, 18, 19, 20, 21, 22, 23, 24, 25, 26, 27, 28, 29, 30, 31, 32, 33, 34, 35, 36, 37, 38, 39, 40, 41, 42, 43, 44, 45, 46, 47, 48, 49, 50, 51, 52, 53, 54] (by decide +kernel) (by decide +kernel)
set_option maxRecDepth 20000 in
theorem gX8_justOne_X8_close : GoodIn wsX8_justOne (wsV RX8 123 RX8 yX8_close wsX8_close) := goodIn_app (goodIn_of _ (by decide +kernel)) ggX8_justOne_X8_close
set_option maxRecDepth 20000 in
theorem ggX8_justOne_X8_not : GoodIn wsX8_justOne wsX8_not := goodIn_r _ [17, 6, 7, 18, 19, 20, 21, 22, 23, 24, 25, 26, 27, 28, 29, 30, 31, 32, 33, 34, 35, 36, 37, 38, 39, 40, 41, 42, 43, 44, 45, 46, 47, 48, 49, 50, 51, 52, 53, 54] (by decide +kernel) (by decide +kernel)
set_option maxRecDepth 20000 in
theorem gX8_justOne_X8_not : GoodIn wsX8_justOne (wsV RX8 126 RX8 yX8_not wsX8_not) := goodIn_app (goodIn_of _ (by decide +kernel)) ggX8_justOne_X8_not
theorem dX8_justOne_0 : decode cX8_justOne 0 = .ok (.iconst 0, 1) := by decide +kernel
theorem dX8_justOne_1 : decode cX8_justOne 1 = .ok (.istore_n 3, 1) := by decide +kernel
theorem dX8_justOne_2 : decode cX8_justOne 2 = .ok (.iload_n 3, 1) := by decide +kernel
theorem dX8_justOne_3 : decode cX8_justOne 3 = .ok (.iload_n 2, 1) := by decide +kernel
theorem dX8_justOne_4 : decode cX8_justOne 4 = .ok (.if_icmp .ge 16, 3) := by decide +kernel
theorem dX8_justOne_7 : decode cX8_justOne 7 = .ok (.aload_n 0, 1) := by decide +kernel
theorem dX8_justOne_8 : decode cX8_justOne 8 = .ok (.iload_n 1, 1) := by decide +kernel
theorem dX8_justOne_9 : decode cX8_justOne 9 = .ok (.iload_n 3, 1) := by decide +kernel
theorem dX8_justOne_10 : decode cX8_justOne 10 = .ok (.iadd, 1) := by decide +kernel
theorem dX8_justOne_11 : decode cX8_justOne 11 = .ok (.invokevirtual 119, 3) := by decide +kernel
theorem dX8_justOne_14 : decode cX8_justOne 14 = .ok (.iinc 3 1, 3) := by decide +kernel
theorem dX8_justOne_17 : decode cX8_justOne 17 = .ok (.goto (-15), 3) := by decide +kernel
theorem dX8_justOne_20 : decode cX8_justOne 20 = .ok (.aload_n 0, 1) := by decide +kernel
theorem dX8_justOne_21 : decode cX8_justOne 21 = .ok (.invokevirtual 123, 3) := by decide +kernel
theorem dX8_justOne_24 : decode cX8_justOne 24 = .ok (.iconst 0, 1) := by decide +kernel
theorem dX8_justOne_25 : decode cX8_justOne 25 = .ok (.istore_n 3, 1) := by decide +kernel
theorem dX8_justOne_26 : decode cX8_justOne 26 = .ok (.iload_n 3, 1) := by decide +kernel
theorem dX8_justOne_27 : decode cX8_justOne 27 = .ok (.iload_n 2, 1) := by decide +kernel
theorem dX8_justOne_28 : decode cX8_justOne 28 = .ok (.if_icmp .ge 45, 3) := by decide +kernel
theorem dX8_justOne_31 : decode cX8_justOne 31 = .ok (.iload_n 3, 1) := by decide +kernel
theorem dX8_justOne_32 : decode cX8_justOne 32 = .ok (.iconst 1, 1) := by decide +kernel
theorem dX8_justOne_33 : decode cX8_justOne 33 = .ok (.iadd, 1) := by decide +kernel
theorem dX8_justOne_34 : decode cX8_justOne 34 = .ok (.istore 4, 2) := by decide +kernel
theorem dX8_justOne_36 : decode cX8_justOne 36 = .ok (.iload 4, 2) := by decide +kernel
theorem dX8_justOne_38 : decode cX8_justOne 38 = .ok (.iload_n 2, 1) := by decide +kernel
theorem dX8_justOne_39 : decode cX8_justOne 39 = .ok (.if_icmp .ge 28, 3) := by decide +kernel
theorem dX8_justOne_42 : decode cX8_justOne 42 = .ok (.aload_n 0, 1) := by decide +kernel
theorem dX8_justOne_43 : decode cX8_justOne 43 = .ok (.iload_n 1, 1) := by decide +kernel
theorem dX8_justOne_44 : decode cX8_justOne 44 = .ok (.iload_n 3, 1) := by decide +kernel
theorem dX8_justOne_45 : decode cX8_justOne 45 = .ok (.iadd, 1) := by decide +kernel
theorem dX8_justOne_46 : decode cX8_justOne 46 = .ok (.invokevirtual 126, 3) := by decide +kernel
theorem dX8_justOne_49 : decode cX8_justOne 49 = .ok (.aload_n 0, 1) := by decide +kernel
theorem dX8_justOne_50 : decode cX8_justOne 50 = .ok (.iload_n 1, 1) := by decide +kernel
theorem dX8_justOne_51 : decode cX8_justOne 51 = .ok (.iload 4, 2) := by decide +kernel
theorem dX8_justOne_53 : decode cX8_justOne 53 = .ok (.iadd, 1) := by decide +kernel
theorem dX8_justOne_54 : decode cX8_justOne 54 = .ok (.invokevirtual 126, 3) := by decide +kernel
theorem dX8_justOne_57 : decode cX8_justOne 57 = .ok (.aload_n 0, 1) := by decide +kernel
theorem dX8_justOne_58 : decode cX8_justOne 58 = .ok (.invokevirtual 123, 3) := by decide +kernel
theorem dX8_justOne_61 : decode cX8_justOne 61 = .ok (.iinc 4 1, 3) := by decide +kernel
theorem dX8_justOne_64 : decode cX8_justOne 64 = .ok (.goto (-28), 3) := by decide +kernel
theorem dX8_justOne_67 : decode cX8_justOne 67 = .ok (.iinc 3 1, 3) := by decide +kernel
theorem dX8_justOne_70 : decode cX8_justOne 70 = .ok (.goto (-44), 3) := by decide +kernel
theorem dX8_justOne_73 : decode cX8_justOne 73 = .ok (.return_, 1) := by decide +kernel
set_option maxRecDepth 20000 in
theorem ggX8_alone_X8_is : GoodIn wsX8_alone wsX8_is := goodIn_r _ [5, 6, 7, 14, 15, 16, 17, 18, 19, 20, 21, 22, 23, 24, 25, 26, 27, 28, 29, 30, 31, 32, 33, 34, 35, 36, 37, 38, 39, 40, 41, 42, 43, 44, 45, 46, 47, 48, 49, 50] (by decide +kernel) (by decide +kernel)
set_option maxRecDepth 20000 in
theorem gX8_alone_X8_is : GoodIn wsX8_alone (wsV RX8 119 RX8 yX8_is wsX8_is) := goodIn_app (goodIn_of _ (by decide +kernel)) ggX8_alone_X8_is
set_option maxRecDepth 20000 in
theorem ggX8_alone_X8_close : GoodIn wsX8_alone wsX8_close := goodIn_r _ [11, 12, 13, 7, 14, 15, 16, 17, 18, 19, 20, 21, 22, 23, 24, 25, 26, 27, 28, 29, 30, 31, 32, 33, 34, 35, 36, 37, 38, 39, 40, 41, 42, 43, 44, 45, 46, 47, 48, 49, 50] (by decide +kernel) (by decide +kernel)
set_option maxRecDepth 20000 in
theorem gX8_alone_X8_close : GoodIn wsX8_alone (wsV RX8 123 RX8 yX8_close wsX8_close) := goodIn_app (goodIn_of _ (by decide +kernel)) ggX8_alone_X8_close
theorem dX8_alone_0 : decode cX8_alone 0 = .ok (.aload_n 0, 1) := by decide +kernel
theorem dX8_alone_1 : decode cX8_alone 1 = .ok (.iload_n 1, 1) := by decide +kernel
theorem dX8_alone_2 : decode cX8_alone 2 = .ok (.invokevirtual 119, 3) := by decide +kernel
theorem dX8_alone_5 : decode cX8_alone 5 = .ok (.aload_n 0, 1) := by decide +kernel
theorem dX8_alone_6 : decode cX8_alone 6 = .ok (.invokevirtual 123, 3) := by decide +kernel
theorem dX8_alone_9 : decode cX8_alone 9 = .ok (.return_, 1) := by decide +kernel
set_option maxRecDepth 20000 in
theorem ggX8_rows_X8_c : GoodIn wsX8_rows wsX8_c := goodIn_r _ [9, 1, 2, 42, 43, 44, 45, 46, 47, 48, 49, 50, 51, 52, 53, 54, 55, 56, 57, 58, 59, 60, 61, 62, 63, 64, 65, 66, 67, 68, 69, 70, 71, 72, 73, 74, 75, 76, 77, 78] (by decide +kernel) (by decide +kernel)
set_option maxRecDepth 20000 in
theorem gX8_rows_X8_c : GoodIn wsX8_rows (wsV RX8 102 RX8 yX8_c wsX8_c) := goodIn_app (goodIn_of _ (by decide +kernel)) ggX8_rows_X8_c
set_option maxRecDepth 20000 in
theorem ggX8_rows_X8_justOne : GoodIn wsX8_rows wsX8_justOne := goodIn_r _ [13, 14, 15, 16, 8, 17, 18, 19, 20, 21, 22, 23, 24, 25, 26, 27, 28, 29, 42, 43, 44, 45, 46, 47, 48, 49, 50, 51, 52, 53, 54, 55, 56, 57, 58, 59, 60, 61, 62, 63, 64, 65, 66, 67, 68, 69, 70, 71, 72, 73, 74, 75, 76, 77, 78] (by decide +kernel) (by decide +kernel)
set_option maxRecDepth 20000 in
theorem gX8_rows_X8_justOne : GoodIn wsX8_rows (wsV RX8 129 RX8 yX8_justOne wsX8_justOne) := goodIn_app (goodIn_of _ (by decide +kernel)) ggX8_rows_X8_justOne
set_option maxRecDepth 20000 in
theorem ggX8_rows_X8_h : GoodIn wsX8_rows wsX8_h := goodIn_r _ [33, 1, 5, 6, 7, 8, 9, 2, 42, 43, 44, 45, 46, 47, 48, 49, 50, 51, 52, 53, 54, 55, 56, 57, 58, 59, 60, 61, 62, 63, 64, 65, 66, 67, 68, 69, 70, 71, 72, 73, 74, 75, 76, 77, 78] (by decide +kernel) (by decide +kernel)
set_option maxRecDepth 20000 in
theorem gX8_rows_X8_h : GoodIn wsX8_rows (wsV RX8 106 RX8 yX8_h wsX8_h) := goodIn_app (goodIn_of _ (by decide +kernel)) ggX8_rows_X8_h
set_option maxRecDepth 20000 in
theorem ggX8_rows_X8_q : GoodIn wsX8_rows wsX8_q := goodIn_r _ [37, 1, 3, 30, 31, 32, 8, 33, 5, 6, 7, 9, 2, 42, 43, 44, 45, 46, 47, 48, 49, 50, 51, 52, 53, 54, 55, 56, 57, 58, 59, 60, 61, 62, 63, 64, 65, 66, 67, 68, 69, 70, 71, 72, 73, 74, 75, 76, 77, 78] (by decide +kernel) (by decide +kernel)
set_option maxRecDepth 20000 in
theorem gX8_rows_X8_q : GoodIn wsX8_rows (wsV RX8 110 RX8 yX8_q wsX8_q) := goodIn_app (goodIn_of _ (by decide +kernel)) ggX8_rows_X8_q
set_option maxRecDepth 20000 in
theorem ggX8_rows_X8_alone : GoodIn wsX8_rows wsX8_alone := goodIn_r _ [41, 14, 15, 16, 8, 17, 18, 19, 20, 21, 22, 23, 24, 25, 42, 43, 44, 45, 46, 47, 48, 49, 50, 51, 52, 53, 54, 55, 56, 57, 58, 59, 60, 61, 62, 63, 64, 65, 66, 67, 68, 69, 70, 71, 72, 73, 74, 75, 76, 77, 78] (by decide +kernel) (by decide +kernel)
set_option maxRecDepth 20000 in
theorem gX8_rows_X8_alone : GoodIn wsX8_rows (wsV RX8 133 RX8 yX8_alone wsX8_alone) := goodIn_app (goodIn_of _ (by decide +kernel)) ggX8_rows_X8_alone
theorem dX8_rows_0 : decode cX8_rows 0 = .ok (.iconst 0, 1) := by decide +kernel
theorem dX8_rows_1 : decode cX8_rows 1 = .ok (.istore_n 1, 1) := by decide +kernel
theorem dX8_rows_2 : decode cX8_rows 2 = .ok (.iload_n 1, 1) := by decide +kernel
theorem dX8_rows_3 : decode cX8_rows 3 = .ok (.aload_n 0, 1) := by decide +kernel
theorem dX8_rows_4 : decode cX8_rows 4 = .ok (.getfield 16, 3) := by decide +kernel
theorem dX8_rows_7 : decode cX8_rows 7 = .ok (.if_icmp .gt 40, 3) := by decide +kernel
theorem dX8_rows_10 : decode cX8_rows 10 = .ok (.iconst 0, 1) := by decide +kernel
theorem dX8_rows_11 : decode cX8_rows 11 = .ok (.istore_n 2, 1) := by decide +kernel
theorem dX8_rows_12 : decode cX8_rows 12 = .ok (.iload_n 2, 1) := by decide +kernel
theorem dX8_rows_13 : decode cX8_rows 13 = .ok (.aload_n 0, 1) := by decide +kernel
theorem dX8_rows_14 : decode cX8_rows 14 = .ok (.getfield 16, 3) := by decide +kernel
theorem dX8_rows_17 : decode cX8_rows 17 = .ok (.if_icmp .gt 24, 3) := by decide +kernel
theorem dX8_rows_20 : decode cX8_rows 20 = .ok (.aload_n 0, 1) := by decide +kernel
theorem dX8_rows_21 : decode cX8_rows 21 = .ok (.aload_n 0, 1) := by decide +kernel
theorem dX8_rows_22 : decode cX8_rows 22 = .ok (.iload_n 1, 1) := by decide +kernel
theorem dX8_rows_23 : decode cX8_rows 23 = .ok (.iload_n 2, 1) := by decide +kernel
theorem dX8_rows_24 : decode cX8_rows 24 = .ok (.iconst 0, 1) := by decide +kernel
theorem dX8_rows_25 : decode cX8_rows 25 = .ok (.invokevirtual 102, 3) := by decide +kernel
theorem dX8_rows_28 : decode cX8_rows 28 = .ok (.aload_n 0, 1) := by decide +kernel
theorem dX8_rows_29 : decode cX8_rows 29 = .ok (.getfield 13, 3) := by decide +kernel
theorem dX8_rows_32 : decode cX8_rows 32 = .ok (.invokevirtual 129, 3) := by decide +kernel
theorem dX8_rows_35 : decode cX8_rows 35 = .ok (.iinc 2 1, 3) := by decide +kernel
theorem dX8_rows_38 : decode cX8_rows 38 = .ok (.goto (-26), 3) := by decide +kernel
theorem dX8_rows_41 : decode cX8_rows 41 = .ok (.iinc 1 1, 3) := by decide +kernel
theorem dX8_rows_44 : decode cX8_rows 44 = .ok (.goto (-42), 3) := by decide +kernel
theorem dX8_rows_47 : decode cX8_rows 47 = .ok (.iconst 0, 1) := by decide +kernel
theorem dX8_rows_48 : decode cX8_rows 48 = .ok (.istore_n 1, 1) := by decide +kernel
theorem dX8_rows_49 : decode cX8_rows 49 = .ok (.iload_n 1, 1) := by decide +kernel
theorem dX8_rows_50 : decode cX8_rows 50 = .ok (.aload_n 0, 1) := by decide +kernel
theorem dX8_rows_51 : decode cX8_rows 51 = .ok (.getfield 16, 3) := by decide +kernel
theorem dX8_rows_54 : decode cX8_rows 54 = .ok (.if_icmp .gt 25, 3) := by decide +kernel
theorem dX8_rows_57 : decode cX8_rows 57 = .ok (.aload_n 0, 1) := by decide +kernel
theorem dX8_rows_58 : decode cX8_rows 58 = .ok (.aload_n 0, 1) := by decide +kernel
theorem dX8_rows_59 : decode cX8_rows 59 = .ok (.iload_n 1, 1) := by decide +kernel
theorem dX8_rows_60 : decode cX8_rows 60 = .ok (.iconst 0, 1) := by decide +kernel
theorem dX8_rows_61 : decode cX8_rows 61 = .ok (.invokevirtual 106, 3) := by decide +kernel
theorem dX8_rows_64 : decode cX8_rows 64 = .ok (.aload_n 0, 1) := by decide +kernel
theorem dX8_rows_65 : decode cX8_rows 65 = .ok (.getfield 16, 3) := by decide +kernel
theorem dX8_rows_68 : decode cX8_rows 68 = .ok (.iconst 1, 1) := by decide +kernel
theorem dX8_rows_69 : decode cX8_rows 69 = .ok (.iadd, 1) := by decide +kernel
theorem dX8_rows_70 : decode cX8_rows 70 = .ok (.invokevirtual 129, 3) := by decide +kernel
theorem dX8_rows_73 : decode cX8_rows 73 = .ok (.iinc 1 1, 3) := by decide +kernel
theorem dX8_rows_76 : decode cX8_rows 76 = .ok (.goto (-27), 3) := by decide +kernel
theorem dX8_rows_79 : decode cX8_rows 79 = .ok (.iconst 0, 1) := by decide +kernel
theorem dX8_rows_80 : decode cX8_rows 80 = .ok (.istore_n 1, 1) := by decide +kernel
theorem dX8_rows_81 : decode cX8_rows 81 = .ok (.iload_n 1, 1) := by decide +kernel
theorem dX8_rows_82 : decode cX8_rows 82 = .ok (.aload_n 0, 1) := by decide +kernel
theorem dX8_rows_83 : decode cX8_rows 83 = .ok (.getfield 16, 3) := by decide +kernel
theorem dX8_rows_86 : decode cX8_rows 86 = .ok (.if_icmp .gt 23, 3) := by decide +kernel
theorem dX8_rows_89 : decode cX8_rows 89 = .ok (.aload_n 0, 1) := by decide +kernel
theorem dX8_rows_90 : decode cX8_rows 90 = .ok (.aload_n 0, 1) := by decide +kernel
theorem dX8_rows_91 : decode cX8_rows 91 = .ok (.iload_n 1, 1) := by decide +kernel
theorem dX8_rows_92 : decode cX8_rows 92 = .ok (.iconst 0, 1) := by decide +kernel
theorem dX8_rows_93 : decode cX8_rows 93 = .ok (.invokevirtual 110, 3) := by decide +kernel
theorem dX8_rows_96 : decode cX8_rows 96 = .ok (.aload_n 0, 1) := by decide +kernel
theorem dX8_rows_97 : decode cX8_rows 97 = .ok (.getfield 7, 3) := by decide +kernel
theorem dX8_rows_100 : decode cX8_rows 100 = .ok (.invokevirtual 129, 3) := by decide +kernel
theorem dX8_rows_103 : decode cX8_rows 103 = .ok (.iinc 1 1, 3) := by decide +kernel
theorem dX8_rows_106 : decode cX8_rows 106 = .ok (.goto (-25), 3) := by decide +kernel
theorem dX8_rows_109 : decode cX8_rows 109 = .ok (.iconst 0, 1) := by decide +kernel
theorem dX8_rows_110 : decode cX8_rows 110 = .ok (.istore_n 1, 1) := by decide +kernel
theorem dX8_rows_111 : decode cX8_rows 111 = .ok (.iload_n 1, 1) := by decide +kernel
theorem dX8_rows_112 : decode cX8_rows 112 = .ok (.aload_n 0, 1) := by decide +kernel
theorem dX8_rows_113 : decode cX8_rows 113 = .ok (.getfield 16, 3) := by decide +kernel
theorem dX8_rows_116 : decode cX8_rows 116 = .ok (.if_icmp .gt 25, 3) := by decide +kernel
theorem dX8_rows_119 : decode cX8_rows 119 = .ok (.aload_n 0, 1) := by decide +kernel
theorem dX8_rows_120 : decode cX8_rows 120 = .ok (.aload_n 0, 1) := by decide +kernel
theorem dX8_rows_121 : decode cX8_rows 121 = .ok (.iconst 0, 1) := by decide +kernel
theorem dX8_rows_122 : decode cX8_rows 122 = .ok (.iload_n 1, 1) := by decide +kernel
theorem dX8_rows_123 : decode cX8_rows 123 = .ok (.aload_n 0, 1) := by decide +kernel
theorem dX8_rows_124 : decode cX8_rows 124 = .ok (.getfield 35, 3) := by decide +kernel
theorem dX8_rows_127 : decode cX8_rows 127 = .ok (.iload_n 1, 1) := by decide +kernel
theorem dX8_rows_128 : decode cX8_rows 128 = .ok (.iaload, 1) := by decide +kernel
theorem dX8_rows_129 : decode cX8_rows 129 = .ok (.invokevirtual 102, 3) := by decide +kernel
theorem dX8_rows_132 : decode cX8_rows 132 = .ok (.invokevirtual 133, 3) := by decide +kernel
theorem dX8_rows_135 : decode cX8_rows 135 = .ok (.iinc 1 1, 3) := by decide +kernel
theorem dX8_rows_138 : decode cX8_rows 138 = .ok (.goto (-27), 3) := by decide +kernel
theorem dX8_rows_141 : decode cX8_rows 141 = .ok (.aload_n 0, 1) := by decide +kernel
theorem dX8_rows_142 : decode cX8_rows 142 = .ok (.aload_n 0, 1) := by decide +kernel
theorem dX8_rows_143 : decode cX8_rows 143 = .ok (.iconst 0, 1) := by decide +kernel
theorem dX8_rows_144 : decode cX8_rows 144 = .ok (.iconst 0, 1) := by decide +kernel
theorem dX8_rows_145 : decode cX8_rows 145 = .ok (.invokevirtual 106, 3) := by decide +kernel
theorem dX8_rows_148 : decode cX8_rows 148 = .ok (.invokevirtual 133, 3) := by decide +kernel
theorem dX8_rows_151 : decode cX8_rows 151 = .ok (.aload_n 0, 1) := by decide +kernel
theorem dX8_rows_152 : decode cX8_rows 152 = .ok (.aload_n 0, 1) := by decide +kernel
theorem dX8_rows_153 : decode cX8_rows 153 = .ok (.iconst 0, 1) := by decide +kernel
theorem dX8_rows_154 : decode cX8_rows 154 = .ok (.iconst 0, 1) := by decide +kernel
theorem dX8_rows_155 : decode cX8_rows 155 = .ok (.invokevirtual 110, 3) := by decide +kernel
theorem dX8_rows_158 : decode cX8_rows 158 = .ok (.invokevirtual 133, 3) := by decide +kernel
theorem dX8_rows_161 : decode cX8_rows 161 = .ok (.aload_n 0, 1) := by decide +kernel
theorem dX8_rows_162 : decode cX8_rows 162 = .ok (.aload_n 0, 1) := by decide +kernel
theorem dX8_rows_163 : decode cX8_rows 163 = .ok (.aload_n 0, 1) := by decide +kernel
theorem dX8_rows_164 : decode cX8_rows 164 = .ok (.getfield 16, 3) := by decide +kernel
theorem dX8_rows_167 : decode cX8_rows 167 = .ok (.aload_n 0, 1) := by decide +kernel
theorem dX8_rows_168 : decode cX8_rows 168 = .ok (.getfield 7, 3) := by decide +kernel
theorem dX8_rows_171 : decode cX8_rows 171 = .ok (.iconst 1, 1) := by decide +kernel
theorem dX8_rows_172 : decode cX8_rows 172 = .ok (.isub, 1) := by decide +kernel
theorem dX8_rows_173 : decode cX8_rows 173 = .ok (.invokevirtual 110, 3) := by decide +kernel
theorem dX8_rows_176 : decode cX8_rows 176 = .ok (.invokevirtual 133, 3) := by decide +kernel
theorem dX8_rows_179 : decode cX8_rows 179 = .ok (.return_, 1) := by decide +kernel
set_option maxRecDepth 20000 in
theorem ggX8_brings_X8_not : GoodIn wsX8_brings wsX8_not := goodIn_r _ [5, 6, 7, 18, 19, 20, 21, 22, 23, 24, 25, 26, 27, 28, 29, 30, 31, 32, 33, 34, 35, 36, 37, 38, 39, 40, 41, 42, 43, 44, 45, 46, 47, 48, 49, 50, 51, 52, 53, 54] (by decide +kernel) (by decide +kernel)
set_option maxRecDepth 20000 in
theorem gX8_brings_X8_not : GoodIn wsX8_brings (wsV RX8 126 RX8 yX8_not wsX8_not) := goodIn_app (goodIn_of _ (by decide +kernel)) ggX8_brings_X8_not
set_option maxRecDepth 20000 in
theorem ggX8_brings_X8_is : GoodIn wsX8_brings wsX8_is := goodIn_r _ [11, 6, 7, 18, 19, 20, 21, 22, 23, 24, 25, 26, 27, 28, 29, 30, 31, 32, 33, 34, 35, 36, 37, 38, 39, 40, 41, 42, 43, 44, 45, 46, 47, 48, 49, 50, 51, 52, 53, 54] (by decide +kernel) (by decide +kernel)
set_option maxRecDepth 20000 in
theorem gX8_brings_X8_is : GoodIn wsX8_brings (wsV RX8 119 RX8 yX8_is wsX8_is) := goodIn_app (goodIn_of _ (by decide +kernel)) ggX8_brings_X8_is
set_option maxRecDepth 20000 in
theorem ggX8_brings_X8_close : GoodIn wsX8_brings wsX8_close := goodIn_r _ [15, 16, 17, 7, 18, 19, 20, 21, 22, 23, 24, 25, 26, 27, 28, 29, 30, 31, 32, 33, 34, 35, 36, 37, 38, 39, 40, 41, 42, 43, 44, 45, 46, 47, 48, 49, 50, 51, 52, 53, 54] (by decide +kernel) (by decide +kernel)
set_option maxRecDepth 20000 in
theorem gX8_brings_X8_close : GoodIn wsX8_brings (wsV RX8 123 RX8 yX8_close wsX8_close) := goodIn_app (goodIn_of _ (by decide +kernel)) ggX8_brings_X8_close
theorem dX8_brings_0 : decode cX8_brings 0 = .ok (.aload_n 0, 1) := by decide +kernel
theorem dX8_brings_1 : decode cX8_brings 1 = .ok (.iload_n 1, 1) := by decide +kernel
theorem dX8_brings_2 : decode cX8_brings 2 = .ok (.invokevirtual 126, 3) := by decide +kernel
theorem dX8_brings_5 : decode cX8_brings 5 = .ok (.aload_n 0, 1) := by decide +kernel
theorem dX8_brings_6 : decode cX8_brings 6 = .ok (.iload_n 2, 1) := by decide +kernel
theorem dX8_brings_7 : decode cX8_brings 7 = .ok (.invokevirtual 119, 3) := by decide +kernel
theorem dX8_brings_10 : decode cX8_brings 10 = .ok (.aload_n 0, 1) := by decide +kernel
theorem dX8_brings_11 : decode cX8_brings 11 = .ok (.invokevirtual 123, 3) := by decide +kernel
theorem dX8_brings_14 : decode cX8_brings 14 = .ok (.return_, 1) := by decide +kernel
set_option maxRecDepth 20000 in
theorem ggX8_bringsAt_X8_not : GoodIn wsX8_bringsAt wsX8_not := goodIn_r _ [5, 6, 7, 18, 19, 20, 21, 22, 23, 24, 25, 26, 27, 28, 29, 30, 31, 32, 33, 34, 35, 36, 37, 38, 39, 40, 41, 42, 43, 44, 45, 46, 47, 48, 49, 50, 51, 52, 53, 54] (by decide +kernel) (by decide +kernel)
set_option maxRecDepth 20000 in
theorem gX8_bringsAt_X8_not : GoodIn wsX8_bringsAt (wsV RX8 126 RX8 yX8_not wsX8_not) := goodIn_app (goodIn_of _ (by decide +kernel)) ggX8_bringsAt_X8_not
set_option maxRecDepth 20000 in
theorem ggX8_bringsAt_X8_is : GoodIn wsX8_bringsAt wsX8_is := goodIn_r _ [11, 6, 7, 18, 19, 20, 21, 22, 23, 24, 25, 26, 27, 28, 29, 30, 31, 32, 33, 34, 35, 36, 37, 38, 39, 40, 41, 42, 43, 44, 45, 46, 47, 48, 49, 50, 51, 52, 53, 54] (by decide +kernel) (by decide +kernel)
set_option maxRecDepth 20000 in
theorem gX8_bringsAt_X8_is : GoodIn wsX8_bringsAt (wsV RX8 119 RX8 yX8_is wsX8_is) := goodIn_app (goodIn_of _ (by decide +kernel)) ggX8_bringsAt_X8_is
set_option maxRecDepth 20000 in
theorem ggX8_bringsAt_X8_close : GoodIn wsX8_bringsAt wsX8_close := goodIn_r _ [15, 16, 17, 7, 18, 19, 20, 21, 22, 23, 24, 25, 26, 27, 28, 29, 30, 31, 32, 33, 34, 35, 36, 37, 38, 39, 40, 41, 42, 43, 44, 45, 46, 47, 48, 49, 50, 51, 52, 53, 54] (by decide +kernel) (by decide +kernel)
set_option maxRecDepth 20000 in
theorem gX8_bringsAt_X8_close : GoodIn wsX8_bringsAt (wsV RX8 123 RX8 yX8_close wsX8_close) := goodIn_app (goodIn_of _ (by decide +kernel)) ggX8_bringsAt_X8_close
theorem dX8_bringsAt_0 : decode cX8_bringsAt 0 = .ok (.aload_n 0, 1) := by decide +kernel
theorem dX8_bringsAt_1 : decode cX8_bringsAt 1 = .ok (.iload_n 1, 1) := by decide +kernel
theorem dX8_bringsAt_2 : decode cX8_bringsAt 2 = .ok (.invokevirtual 126, 3) := by decide +kernel
theorem dX8_bringsAt_5 : decode cX8_bringsAt 5 = .ok (.aload_n 0, 1) := by decide +kernel
theorem dX8_bringsAt_6 : decode cX8_bringsAt 6 = .ok (.iload_n 2, 1) := by decide +kernel
theorem dX8_bringsAt_7 : decode cX8_bringsAt 7 = .ok (.invokevirtual 126, 3) := by decide +kernel
theorem dX8_bringsAt_10 : decode cX8_bringsAt 10 = .ok (.iload_n 3, 1) := by decide +kernel
theorem dX8_bringsAt_11 : decode cX8_bringsAt 11 = .ok (.ifCond .lt 8, 3) := by decide +kernel
theorem dX8_bringsAt_14 : decode cX8_bringsAt 14 = .ok (.aload_n 0, 1) := by decide +kernel
theorem dX8_bringsAt_15 : decode cX8_bringsAt 15 = .ok (.iload_n 3, 1) := by decide +kernel
theorem dX8_bringsAt_16 : decode cX8_bringsAt 16 = .ok (.invokevirtual 119, 3) := by decide +kernel
theorem dX8_bringsAt_19 : decode cX8_bringsAt 19 = .ok (.aload_n 0, 1) := by decide +kernel
theorem dX8_bringsAt_20 : decode cX8_bringsAt 20 = .ok (.invokevirtual 123, 3) := by decide +kernel
theorem dX8_bringsAt_23 : decode cX8_bringsAt 23 = .ok (.return_, 1) := by decide +kernel
set_option maxRecDepth 20000 in
theorem ggX8_ruleClauses_X8_k : GoodIn wsX8_ruleClauses wsX8_k := goodIn_r _ [11, 3, 12, 13, 14, 15, 10, 16, 17, 18, 19, 20, 21, 22, 23, 24, 25, 26, 54, 55, 56, 57, 58, 59, 60, 61, 62, 63, 64, 65, 66, 67, 68, 69, 70, 71, 72, 73, 74, 75, 76, 77, 78, 79, 80, 81, 82, 83, 84, 85, 86, 87, 88, 89, 90] (by decide +kernel) (by decide +kernel)
set_option maxRecDepth 20000 in
theorem gX8_ruleClauses_X8_k : GoodIn wsX8_ruleClauses (wsV RX8 136 RX8 yX8_k wsX8_k) := goodIn_app (goodIn_of _ (by decide +kernel)) ggX8_ruleClauses_X8_k
set_option maxRecDepth 20000 in
theorem ggX8_ruleClauses_X8_q : GoodIn wsX8_ruleClauses wsX8_q := goodIn_r _ [16, 3, 17, 18, 19, 20, 10, 21, 22, 23, 24, 25, 26, 54, 55, 56, 57, 58, 59, 60, 61, 62, 63, 64, 65, 66, 67, 68, 69, 70, 71, 72, 73, 74, 75, 76, 77, 78, 79, 80, 81, 82, 83, 84, 85, 86, 87, 88, 89, 90] (by decide +kernel) (by decide +kernel)
set_option maxRecDepth 20000 in
theorem gX8_ruleClauses_X8_q : GoodIn wsX8_ruleClauses (wsV RX8 110 RX8 yX8_q wsX8_q) := goodIn_app (goodIn_of _ (by decide +kernel)) ggX8_ruleClauses_X8_q
set_option maxRecDepth 20000 in
theorem ggX8_ruleClauses_X8_brings : GoodIn wsX8_ruleClauses wsX8_brings := goodIn_r _ [30, 31, 32, 33, 10, 34, 35, 36, 37, 38, 39, 40, 41, 42, 43, 44, 45, 46, 54, 55, 56, 57, 58, 59, 60, 61, 62, 63, 64, 65, 66, 67, 68, 69, 70, 71, 72, 73, 74, 75, 76, 77, 78, 79, 80, 81, 82, 83, 84, 85, 86, 87, 88, 89, 90] (by decide +kernel) (by decide +kernel)
set_option maxRecDepth 20000 in
theorem gX8_ruleClauses_X8_brings : GoodIn wsX8_ruleClauses (wsV RX8 139 RX8 yX8_brings wsX8_brings) := goodIn_app (goodIn_of _ (by decide +kernel)) ggX8_ruleClauses_X8_brings
set_option maxRecDepth 20000 in
theorem ggX8_ruleClauses_X8_h : GoodIn wsX8_ruleClauses wsX8_h := goodIn_r _ [21, 3, 22, 23, 24, 10, 25, 26, 54, 55, 56, 57, 58, 59, 60, 61, 62, 63, 64, 65, 66, 67, 68, 69, 70, 71, 72, 73, 74, 75, 76, 77, 78, 79, 80, 81, 82, 83, 84, 85, 86, 87, 88, 89, 90] (by decide +kernel) (by decide +kernel)
set_option maxRecDepth 20000 in
theorem gX8_ruleClauses_X8_h : GoodIn wsX8_ruleClauses (wsV RX8 106 RX8 yX8_h wsX8_h) := goodIn_app (goodIn_of _ (by decide +kernel)) ggX8_ruleClauses_X8_h
set_option maxRecDepth 20000 in
theorem ggX8_ruleClauses_X8_c : GoodIn wsX8_ruleClauses wsX8_c := goodIn_r _ [25, 3, 26, 54, 55, 56, 57, 58, 59, 60, 61, 62, 63, 64, 65, 66, 67, 68, 69, 70, 71, 72, 73, 74, 75, 76, 77, 78, 79, 80, 81, 82, 83, 84, 85, 86, 87, 88, 89, 90] (by decide +kernel) (by decide +kernel)
set_option maxRecDepth 20000 in
theorem gX8_ruleClauses_X8_c : GoodIn wsX8_ruleClauses (wsV RX8 102 RX8 yX8_c wsX8_c) := goodIn_app (goodIn_of _ (by decide +kernel)) ggX8_ruleClauses_X8_c
set_option maxRecDepth 20000 in
theorem ggX8_ruleClauses_X8_bringsAt : GoodIn wsX8_ruleClauses wsX8_bringsAt := goodIn_r _ [50, 31, 32, 33, 10, 34, 35, 36, 37, 38, 39, 40, 41, 42, 43, 44, 45, 46, 54, 55, 56, 57, 58, 59, 60, 61, 62, 63, 64, 65, 66, 67, 68, 69, 70, 71, 72, 73, 74, 75, 76, 77, 78, 79, 80, 81, 82, 83, 84, 85, 86, 87, 88, 89, 90] (by decide +kernel) (by decide +kernel)
set_option maxRecDepth 20000 in
theorem gX8_ruleClauses_X8_bringsAt : GoodIn wsX8_ruleClauses (wsV RX8 142 RX8 yX8_bringsAt wsX8_bringsAt) := goodIn_app (goodIn_of _ (by decide +kernel)) ggX8_ruleClauses_X8_bringsAt
set_option maxRecDepth 20000 in
theorem ggX8_ruleClauses_X8_in : GoodIn wsX8_ruleClauses wsX8_in := goodIn_r _ [53] (by decide +kernel) (by decide +kernel)
set_option maxRecDepth 20000 in
theorem gX8_ruleClauses_X8_in : GoodIn wsX8_ruleClauses (va_wsS RX8 92 yX8_in wsX8_in) := goodIn_app (goodIn_of _ (by decide +kernel)) ggX8_ruleClauses_X8_in
theorem dX8_ruleClauses_0 : decode cX8_ruleClauses 0 = .ok (.aload_n 0, 1) := by decide +kernel
theorem dX8_ruleClauses_1 : decode cX8_ruleClauses 1 = .ok (.iload_n 1, 1) := by decide +kernel
theorem dX8_ruleClauses_2 : decode cX8_ruleClauses 2 = .ok (.iload_n 2, 1) := by decide +kernel
theorem dX8_ruleClauses_3 : decode cX8_ruleClauses 3 = .ok (.invokevirtual 136, 3) := by decide +kernel
theorem dX8_ruleClauses_6 : decode cX8_ruleClauses 6 = .ok (.istore_n 3, 1) := by decide +kernel
theorem dX8_ruleClauses_7 : decode cX8_ruleClauses 7 = .ok (.aload_n 0, 1) := by decide +kernel
theorem dX8_ruleClauses_8 : decode cX8_ruleClauses 8 = .ok (.iload_n 3, 1) := by decide +kernel
theorem dX8_ruleClauses_9 : decode cX8_ruleClauses 9 = .ok (.aload_n 0, 1) := by decide +kernel
theorem dX8_ruleClauses_10 : decode cX8_ruleClauses 10 = .ok (.iload_n 1, 1) := by decide +kernel
theorem dX8_ruleClauses_11 : decode cX8_ruleClauses 11 = .ok (.aload_n 0, 1) := by decide +kernel
theorem dX8_ruleClauses_12 : decode cX8_ruleClauses 12 = .ok (.getfield 19, 3) := by decide +kernel
theorem dX8_ruleClauses_15 : decode cX8_ruleClauses 15 = .ok (.iload_n 2, 1) := by decide +kernel
theorem dX8_ruleClauses_16 : decode cX8_ruleClauses 16 = .ok (.iaload, 1) := by decide +kernel
theorem dX8_ruleClauses_17 : decode cX8_ruleClauses 17 = .ok (.invokevirtual 110, 3) := by decide +kernel
theorem dX8_ruleClauses_20 : decode cX8_ruleClauses 20 = .ok (.invokevirtual 139, 3) := by decide +kernel
theorem dX8_ruleClauses_23 : decode cX8_ruleClauses 23 = .ok (.aload_n 0, 1) := by decide +kernel
theorem dX8_ruleClauses_24 : decode cX8_ruleClauses 24 = .ok (.iload_n 3, 1) := by decide +kernel
theorem dX8_ruleClauses_25 : decode cX8_ruleClauses 25 = .ok (.aload_n 0, 1) := by decide +kernel
theorem dX8_ruleClauses_26 : decode cX8_ruleClauses 26 = .ok (.iload_n 1, 1) := by decide +kernel
theorem dX8_ruleClauses_27 : decode cX8_ruleClauses 27 = .ok (.iconst 1, 1) := by decide +kernel
theorem dX8_ruleClauses_28 : decode cX8_ruleClauses 28 = .ok (.iadd, 1) := by decide +kernel
theorem dX8_ruleClauses_29 : decode cX8_ruleClauses 29 = .ok (.aload_n 0, 1) := by decide +kernel
theorem dX8_ruleClauses_30 : decode cX8_ruleClauses 30 = .ok (.getfield 26, 3) := by decide +kernel
theorem dX8_ruleClauses_33 : decode cX8_ruleClauses 33 = .ok (.iload_n 2, 1) := by decide +kernel
theorem dX8_ruleClauses_34 : decode cX8_ruleClauses 34 = .ok (.iaload, 1) := by decide +kernel
theorem dX8_ruleClauses_35 : decode cX8_ruleClauses 35 = .ok (.invokevirtual 110, 3) := by decide +kernel
theorem dX8_ruleClauses_38 : decode cX8_ruleClauses 38 = .ok (.invokevirtual 139, 3) := by decide +kernel
theorem dX8_ruleClauses_41 : decode cX8_ruleClauses 41 = .ok (.iconst 0, 1) := by decide +kernel
theorem dX8_ruleClauses_42 : decode cX8_ruleClauses 42 = .ok (.istore 4, 2) := by decide +kernel
theorem dX8_ruleClauses_44 : decode cX8_ruleClauses 44 = .ok (.iload 4, 2) := by decide +kernel
theorem dX8_ruleClauses_46 : decode cX8_ruleClauses 46 = .ok (.aload_n 0, 1) := by decide +kernel
theorem dX8_ruleClauses_47 : decode cX8_ruleClauses 47 = .ok (.getfield 16, 3) := by decide +kernel
theorem dX8_ruleClauses_50 : decode cX8_ruleClauses 50 = .ok (.if_icmp .gt 113, 3) := by decide +kernel
theorem dX8_ruleClauses_53 : decode cX8_ruleClauses 53 = .ok (.aload_n 0, 1) := by decide +kernel
theorem dX8_ruleClauses_54 : decode cX8_ruleClauses 54 = .ok (.iload_n 3, 1) := by decide +kernel
theorem dX8_ruleClauses_55 : decode cX8_ruleClauses 55 = .ok (.aload_n 0, 1) := by decide +kernel
theorem dX8_ruleClauses_56 : decode cX8_ruleClauses 56 = .ok (.iload_n 1, 1) := by decide +kernel
theorem dX8_ruleClauses_57 : decode cX8_ruleClauses 57 = .ok (.iload 4, 2) := by decide +kernel
theorem dX8_ruleClauses_59 : decode cX8_ruleClauses 59 = .ok (.invokevirtual 106, 3) := by decide +kernel
theorem dX8_ruleClauses_62 : decode cX8_ruleClauses 62 = .ok (.aload_n 0, 1) := by decide +kernel
theorem dX8_ruleClauses_63 : decode cX8_ruleClauses 63 = .ok (.iload_n 1, 1) := by decide +kernel
theorem dX8_ruleClauses_64 : decode cX8_ruleClauses 64 = .ok (.iload 4, 2) := by decide +kernel
theorem dX8_ruleClauses_66 : decode cX8_ruleClauses 66 = .ok (.aload_n 0, 1) := by decide +kernel
theorem dX8_ruleClauses_67 : decode cX8_ruleClauses 67 = .ok (.getfield 23, 3) := by decide +kernel
theorem dX8_ruleClauses_70 : decode cX8_ruleClauses 70 = .ok (.iload_n 2, 1) := by decide +kernel
theorem dX8_ruleClauses_71 : decode cX8_ruleClauses 71 = .ok (.iaload, 1) := by decide +kernel
theorem dX8_ruleClauses_72 : decode cX8_ruleClauses 72 = .ok (.invokevirtual 102, 3) := by decide +kernel
theorem dX8_ruleClauses_75 : decode cX8_ruleClauses 75 = .ok (.invokevirtual 142, 3) := by decide +kernel
theorem dX8_ruleClauses_78 : decode cX8_ruleClauses 78 = .ok (.aload_n 0, 1) := by decide +kernel
theorem dX8_ruleClauses_79 : decode cX8_ruleClauses 79 = .ok (.iload_n 3, 1) := by decide +kernel
theorem dX8_ruleClauses_80 : decode cX8_ruleClauses 80 = .ok (.aload_n 0, 1) := by decide +kernel
theorem dX8_ruleClauses_81 : decode cX8_ruleClauses 81 = .ok (.iload_n 1, 1) := by decide +kernel
theorem dX8_ruleClauses_82 : decode cX8_ruleClauses 82 = .ok (.iload 4, 2) := by decide +kernel
theorem dX8_ruleClauses_84 : decode cX8_ruleClauses 84 = .ok (.invokevirtual 106, 3) := by decide +kernel
theorem dX8_ruleClauses_87 : decode cX8_ruleClauses 87 = .ok (.aload_n 0, 1) := by decide +kernel
theorem dX8_ruleClauses_88 : decode cX8_ruleClauses 88 = .ok (.iload_n 1, 1) := by decide +kernel
theorem dX8_ruleClauses_89 : decode cX8_ruleClauses 89 = .ok (.iconst 1, 1) := by decide +kernel
theorem dX8_ruleClauses_90 : decode cX8_ruleClauses 90 = .ok (.iadd, 1) := by decide +kernel
theorem dX8_ruleClauses_91 : decode cX8_ruleClauses 91 = .ok (.iload 4, 2) := by decide +kernel
theorem dX8_ruleClauses_93 : decode cX8_ruleClauses 93 = .ok (.aload_n 0, 1) := by decide +kernel
theorem dX8_ruleClauses_94 : decode cX8_ruleClauses 94 = .ok (.getfield 29, 3) := by decide +kernel
theorem dX8_ruleClauses_97 : decode cX8_ruleClauses 97 = .ok (.iload_n 2, 1) := by decide +kernel
theorem dX8_ruleClauses_98 : decode cX8_ruleClauses 98 = .ok (.iaload, 1) := by decide +kernel
theorem dX8_ruleClauses_99 : decode cX8_ruleClauses 99 = .ok (.invokevirtual 102, 3) := by decide +kernel
theorem dX8_ruleClauses_102 : decode cX8_ruleClauses 102 = .ok (.invokevirtual 142, 3) := by decide +kernel
theorem dX8_ruleClauses_105 : decode cX8_ruleClauses 105 = .ok (.aload_n 0, 1) := by decide +kernel
theorem dX8_ruleClauses_106 : decode cX8_ruleClauses 106 = .ok (.iload_n 3, 1) := by decide +kernel
theorem dX8_ruleClauses_107 : decode cX8_ruleClauses 107 = .ok (.aload_n 0, 1) := by decide +kernel
theorem dX8_ruleClauses_108 : decode cX8_ruleClauses 108 = .ok (.iload_n 1, 1) := by decide +kernel
theorem dX8_ruleClauses_109 : decode cX8_ruleClauses 109 = .ok (.iload 4, 2) := by decide +kernel
theorem dX8_ruleClauses_111 : decode cX8_ruleClauses 111 = .ok (.invokevirtual 106, 3) := by decide +kernel
theorem dX8_ruleClauses_114 : decode cX8_ruleClauses 114 = .ok (.iload 4, 2) := by decide +kernel
theorem dX8_ruleClauses_116 : decode cX8_ruleClauses 116 = .ok (.aload_n 0, 1) := by decide +kernel
theorem dX8_ruleClauses_117 : decode cX8_ruleClauses 117 = .ok (.getfield 32, 3) := by decide +kernel
theorem dX8_ruleClauses_120 : decode cX8_ruleClauses 120 = .ok (.iload_n 2, 1) := by decide +kernel
theorem dX8_ruleClauses_121 : decode cX8_ruleClauses 121 = .ok (.iaload, 1) := by decide +kernel
theorem dX8_ruleClauses_122 : decode cX8_ruleClauses 122 = .ok (.iadd, 1) := by decide +kernel
theorem dX8_ruleClauses_123 : decode cX8_ruleClauses 123 = .ok (.iconst 0, 1) := by decide +kernel
theorem dX8_ruleClauses_124 : decode cX8_ruleClauses 124 = .ok (.aload_n 0, 1) := by decide +kernel
theorem dX8_ruleClauses_125 : decode cX8_ruleClauses 125 = .ok (.getfield 16, 3) := by decide +kernel
theorem dX8_ruleClauses_128 : decode cX8_ruleClauses 128 = .ok (.invokestatic 92, 3) := by decide +kernel
theorem dX8_ruleClauses_131 : decode cX8_ruleClauses 131 = .ok (.ifCond .eq 22, 3) := by decide +kernel
theorem dX8_ruleClauses_134 : decode cX8_ruleClauses 134 = .ok (.aload_n 0, 1) := by decide +kernel
theorem dX8_ruleClauses_135 : decode cX8_ruleClauses 135 = .ok (.iload_n 1, 1) := by decide +kernel
theorem dX8_ruleClauses_136 : decode cX8_ruleClauses 136 = .ok (.iconst 1, 1) := by decide +kernel
theorem dX8_ruleClauses_137 : decode cX8_ruleClauses 137 = .ok (.iadd, 1) := by decide +kernel
theorem dX8_ruleClauses_138 : decode cX8_ruleClauses 138 = .ok (.iload 4, 2) := by decide +kernel
theorem dX8_ruleClauses_140 : decode cX8_ruleClauses 140 = .ok (.aload_n 0, 1) := by decide +kernel
theorem dX8_ruleClauses_141 : decode cX8_ruleClauses 141 = .ok (.getfield 32, 3) := by decide +kernel
theorem dX8_ruleClauses_144 : decode cX8_ruleClauses 144 = .ok (.iload_n 2, 1) := by decide +kernel
theorem dX8_ruleClauses_145 : decode cX8_ruleClauses 145 = .ok (.iaload, 1) := by decide +kernel
theorem dX8_ruleClauses_146 : decode cX8_ruleClauses 146 = .ok (.iadd, 1) := by decide +kernel
theorem dX8_ruleClauses_147 : decode cX8_ruleClauses 147 = .ok (.invokevirtual 106, 3) := by decide +kernel
theorem dX8_ruleClauses_150 : decode cX8_ruleClauses 150 = .ok (.goto 4, 3) := by decide +kernel
theorem dX8_ruleClauses_153 : decode cX8_ruleClauses 153 = .ok (.iconst (-1), 1) := by decide +kernel
theorem dX8_ruleClauses_154 : decode cX8_ruleClauses 154 = .ok (.invokevirtual 142, 3) := by decide +kernel
theorem dX8_ruleClauses_157 : decode cX8_ruleClauses 157 = .ok (.iinc 4 1, 3) := by decide +kernel
theorem dX8_ruleClauses_160 : decode cX8_ruleClauses 160 = .ok (.goto (-116), 3) := by decide +kernel
theorem dX8_ruleClauses_163 : decode cX8_ruleClauses 163 = .ok (.return_, 1) := by decide +kernel
set_option maxRecDepth 20000 in
theorem ggX8_restClauses_X8_k : GoodIn wsX8_restClauses wsX8_k := goodIn_r _ [9, 3, 1, 10, 11, 12, 8, 13, 2, 14, 15, 16, 17, 18, 19, 20, 21, 4, 46, 47, 48, 49, 50, 51, 52, 53, 54, 55, 56, 57, 58, 59, 60, 61, 62, 63, 64, 65, 66, 67, 68, 69, 70, 71, 72, 73, 74, 75, 76, 77, 78, 79, 80, 81, 82] (by decide +kernel) (by decide +kernel)
set_option maxRecDepth 20000 in
theorem gX8_restClauses_X8_k : GoodIn wsX8_restClauses (wsV RX8 136 RX8 yX8_k wsX8_k) := goodIn_app (goodIn_of _ (by decide +kernel)) ggX8_restClauses_X8_k
set_option maxRecDepth 20000 in
theorem ggX8_restClauses_X8_q : GoodIn wsX8_restClauses wsX8_q := goodIn_r _ [13, 3, 2, 14, 15, 16, 8, 17, 18, 19, 20, 21, 4, 46, 47, 48, 49, 50, 51, 52, 53, 54, 55, 56, 57, 58, 59, 60, 61, 62, 63, 64, 65, 66, 67, 68, 69, 70, 71, 72, 73, 74, 75, 76, 77, 78, 79, 80, 81, 82] (by decide +kernel) (by decide +kernel)
set_option maxRecDepth 20000 in
theorem gX8_restClauses_X8_q : GoodIn wsX8_restClauses (wsV RX8 110 RX8 yX8_q wsX8_q) := goodIn_app (goodIn_of _ (by decide +kernel)) ggX8_restClauses_X8_q
set_option maxRecDepth 20000 in
theorem ggX8_restClauses_X8_brings : GoodIn wsX8_restClauses wsX8_brings := goodIn_r _ [25, 26, 27, 28, 8, 29, 30, 31, 32, 33, 34, 35, 36, 37, 38, 39, 40, 41, 46, 47, 48, 49, 50, 51, 52, 53, 54, 55, 56, 57, 58, 59, 60, 61, 62, 63, 64, 65, 66, 67, 68, 69, 70, 71, 72, 73, 74, 75, 76, 77, 78, 79, 80, 81, 82] (by decide +kernel) (by decide +kernel)
set_option maxRecDepth 20000 in
theorem gX8_restClauses_X8_brings : GoodIn wsX8_restClauses (wsV RX8 139 RX8 yX8_brings wsX8_brings) := goodIn_app (goodIn_of _ (by decide +kernel)) ggX8_restClauses_X8_brings
set_option maxRecDepth 20000 in
theorem ggX8_restClauses_X8_h : GoodIn wsX8_restClauses wsX8_h := goodIn_r _ [17, 3, 18, 19, 20, 8, 21, 4, 46, 47, 48, 49, 50, 51, 52, 53, 54, 55, 56, 57, 58, 59, 60, 61, 62, 63, 64, 65, 66, 67, 68, 69, 70, 71, 72, 73, 74, 75, 76, 77, 78, 79, 80, 81, 82] (by decide +kernel) (by decide +kernel)
set_option maxRecDepth 20000 in
theorem gX8_restClauses_X8_h : GoodIn wsX8_restClauses (wsV RX8 106 RX8 yX8_h wsX8_h) := goodIn_app (goodIn_of _ (by decide +kernel)) ggX8_restClauses_X8_h
set_option maxRecDepth 20000 in
theorem ggX8_restClauses_X8_bringsAt : GoodIn wsX8_restClauses wsX8_bringsAt := goodIn_r _ [45, 26, 27, 28, 8, 29, 30, 31, 32, 33, 34, 35, 36, 37, 38, 39, 40, 41, 46, 47, 48, 49, 50, 51, 52, 53, 54, 55, 56, 57, 58, 59, 60, 61, 62, 63, 64, 65, 66, 67, 68, 69, 70, 71, 72, 73, 74, 75, 76, 77, 78, 79, 80, 81, 82] (by decide +kernel) (by decide +kernel)
set_option maxRecDepth 20000 in
theorem gX8_restClauses_X8_bringsAt : GoodIn wsX8_restClauses (wsV RX8 142 RX8 yX8_bringsAt wsX8_bringsAt) := goodIn_app (goodIn_of _ (by decide +kernel)) ggX8_restClauses_X8_bringsAt
set_option maxRecDepth 20000 in
theorem ggX8_restClauses_X8_not : GoodIn wsX8_restClauses wsX8_not := goodIn_r _ [29, 30, 31, 46, 47, 48, 49, 50, 51, 52, 53, 54, 55, 56, 57, 58, 59, 60, 61, 62, 63, 64, 65, 66, 67, 68, 69, 70, 71, 72, 73, 74, 75, 76, 77, 78, 79, 80, 81, 82] (by decide +kernel) (by decide +kernel)
set_option maxRecDepth 20000 in
theorem gX8_restClauses_X8_not : GoodIn wsX8_restClauses (wsV RX8 126 RX8 yX8_not wsX8_not) := goodIn_app (goodIn_of _ (by decide +kernel)) ggX8_restClauses_X8_not
set_option maxRecDepth 20000 in
theorem ggX8_restClauses_X8_c : GoodIn wsX8_restClauses wsX8_c := goodIn_r _ [21, 3, 4, 46, 47, 48, 49, 50, 51, 52, 53, 54, 55, 56, 57, 58, 59, 60, 61, 62, 63, 64, 65, 66, 67, 68, 69, 70, 71, 72, 73, 74, 75, 76, 77, 78, 79, 80, 81, 82] (by decide +kernel) (by decide +kernel)
set_option maxRecDepth 20000 in
theorem gX8_restClauses_X8_c : GoodIn wsX8_restClauses (wsV RX8 102 RX8 yX8_c wsX8_c) := goodIn_app (goodIn_of _ (by decide +kernel)) ggX8_restClauses_X8_c
set_option maxRecDepth 20000 in
theorem ggX8_restClauses_X8_is : GoodIn wsX8_restClauses wsX8_is := goodIn_r _ [35, 30, 31, 46, 47, 48, 49, 50, 51, 52, 53, 54, 55, 56, 57, 58, 59, 60, 61, 62, 63, 64, 65, 66, 67, 68, 69, 70, 71, 72, 73, 74, 75, 76, 77, 78, 79, 80, 81, 82] (by decide +kernel) (by decide +kernel)
set_option maxRecDepth 20000 in
theorem gX8_restClauses_X8_is : GoodIn wsX8_restClauses (wsV RX8 119 RX8 yX8_is wsX8_is) := goodIn_app (goodIn_of _ (by decide +kernel)) ggX8_restClauses_X8_is
set_option maxRecDepth 20000 in
theorem ggX8_restClauses_X8_close : GoodIn wsX8_restClauses wsX8_close := goodIn_r _ [39, 40, 41, 31, 46, 47, 48, 49, 50, 51, 52, 53, 54, 55, 56, 57, 58, 59, 60, 61, 62, 63, 64, 65, 66, 67, 68, 69, 70, 71, 72, 73, 74, 75, 76, 77, 78, 79, 80, 81, 82] (by decide +kernel) (by decide +kernel)
set_option maxRecDepth 20000 in
theorem gX8_restClauses_X8_close : GoodIn wsX8_restClauses (wsV RX8 123 RX8 yX8_close wsX8_close) := goodIn_app (goodIn_of _ (by decide +kernel)) ggX8_restClauses_X8_close
theorem dX8_restClauses_0 : decode cX8_restClauses 0 = .ok (.aload_n 0, 1) := by decide +kernel
theorem dX8_restClauses_1 : decode cX8_restClauses 1 = .ok (.iload_n 1, 1) := by decide +kernel
theorem dX8_restClauses_2 : decode cX8_restClauses 2 = .ok (.aload_n 0, 1) := by decide +kernel
theorem dX8_restClauses_3 : decode cX8_restClauses 3 = .ok (.getfield 96, 3) := by decide +kernel
theorem dX8_restClauses_6 : decode cX8_restClauses 6 = .ok (.invokevirtual 136, 3) := by decide +kernel
theorem dX8_restClauses_9 : decode cX8_restClauses 9 = .ok (.istore_n 2, 1) := by decide +kernel
theorem dX8_restClauses_10 : decode cX8_restClauses 10 = .ok (.aload_n 0, 1) := by decide +kernel
theorem dX8_restClauses_11 : decode cX8_restClauses 11 = .ok (.iload_n 2, 1) := by decide +kernel
theorem dX8_restClauses_12 : decode cX8_restClauses 12 = .ok (.aload_n 0, 1) := by decide +kernel
theorem dX8_restClauses_13 : decode cX8_restClauses 13 = .ok (.iload_n 1, 1) := by decide +kernel
theorem dX8_restClauses_14 : decode cX8_restClauses 14 = .ok (.aload_n 0, 1) := by decide +kernel
theorem dX8_restClauses_15 : decode cX8_restClauses 15 = .ok (.getfield 7, 3) := by decide +kernel
theorem dX8_restClauses_18 : decode cX8_restClauses 18 = .ok (.iconst 1, 1) := by decide +kernel
theorem dX8_restClauses_19 : decode cX8_restClauses 19 = .ok (.isub, 1) := by decide +kernel
theorem dX8_restClauses_20 : decode cX8_restClauses 20 = .ok (.invokevirtual 110, 3) := by decide +kernel
theorem dX8_restClauses_23 : decode cX8_restClauses 23 = .ok (.invokevirtual 139, 3) := by decide +kernel
theorem dX8_restClauses_26 : decode cX8_restClauses 26 = .ok (.aload_n 0, 1) := by decide +kernel
theorem dX8_restClauses_27 : decode cX8_restClauses 27 = .ok (.iload_n 2, 1) := by decide +kernel
theorem dX8_restClauses_28 : decode cX8_restClauses 28 = .ok (.aload_n 0, 1) := by decide +kernel
theorem dX8_restClauses_29 : decode cX8_restClauses 29 = .ok (.iload_n 1, 1) := by decide +kernel
theorem dX8_restClauses_30 : decode cX8_restClauses 30 = .ok (.iconst 1, 1) := by decide +kernel
theorem dX8_restClauses_31 : decode cX8_restClauses 31 = .ok (.iadd, 1) := by decide +kernel
theorem dX8_restClauses_32 : decode cX8_restClauses 32 = .ok (.aload_n 0, 1) := by decide +kernel
theorem dX8_restClauses_33 : decode cX8_restClauses 33 = .ok (.getfield 7, 3) := by decide +kernel
theorem dX8_restClauses_36 : decode cX8_restClauses 36 = .ok (.iconst 1, 1) := by decide +kernel
theorem dX8_restClauses_37 : decode cX8_restClauses 37 = .ok (.isub, 1) := by decide +kernel
theorem dX8_restClauses_38 : decode cX8_restClauses 38 = .ok (.invokevirtual 110, 3) := by decide +kernel
theorem dX8_restClauses_41 : decode cX8_restClauses 41 = .ok (.invokevirtual 139, 3) := by decide +kernel
theorem dX8_restClauses_44 : decode cX8_restClauses 44 = .ok (.iconst 0, 1) := by decide +kernel
theorem dX8_restClauses_45 : decode cX8_restClauses 45 = .ok (.istore_n 3, 1) := by decide +kernel
theorem dX8_restClauses_46 : decode cX8_restClauses 46 = .ok (.iload_n 3, 1) := by decide +kernel
theorem dX8_restClauses_47 : decode cX8_restClauses 47 = .ok (.aload_n 0, 1) := by decide +kernel
theorem dX8_restClauses_48 : decode cX8_restClauses 48 = .ok (.getfield 16, 3) := by decide +kernel
theorem dX8_restClauses_51 : decode cX8_restClauses 51 = .ok (.if_icmp .gt 91, 3) := by decide +kernel
theorem dX8_restClauses_54 : decode cX8_restClauses 54 = .ok (.aload_n 0, 1) := by decide +kernel
theorem dX8_restClauses_55 : decode cX8_restClauses 55 = .ok (.iload_n 2, 1) := by decide +kernel
theorem dX8_restClauses_56 : decode cX8_restClauses 56 = .ok (.aload_n 0, 1) := by decide +kernel
theorem dX8_restClauses_57 : decode cX8_restClauses 57 = .ok (.iload_n 1, 1) := by decide +kernel
theorem dX8_restClauses_58 : decode cX8_restClauses 58 = .ok (.iload_n 3, 1) := by decide +kernel
theorem dX8_restClauses_59 : decode cX8_restClauses 59 = .ok (.invokevirtual 106, 3) := by decide +kernel
theorem dX8_restClauses_62 : decode cX8_restClauses 62 = .ok (.aload_n 0, 1) := by decide +kernel
theorem dX8_restClauses_63 : decode cX8_restClauses 63 = .ok (.iload_n 1, 1) := by decide +kernel
theorem dX8_restClauses_64 : decode cX8_restClauses 64 = .ok (.iconst 1, 1) := by decide +kernel
theorem dX8_restClauses_65 : decode cX8_restClauses 65 = .ok (.iadd, 1) := by decide +kernel
theorem dX8_restClauses_66 : decode cX8_restClauses 66 = .ok (.iload_n 3, 1) := by decide +kernel
theorem dX8_restClauses_67 : decode cX8_restClauses 67 = .ok (.invokevirtual 106, 3) := by decide +kernel
theorem dX8_restClauses_70 : decode cX8_restClauses 70 = .ok (.invokevirtual 142, 3) := by decide +kernel
theorem dX8_restClauses_73 : decode cX8_restClauses 73 = .ok (.iconst 0, 1) := by decide +kernel
theorem dX8_restClauses_74 : decode cX8_restClauses 74 = .ok (.istore 4, 2) := by decide +kernel
theorem dX8_restClauses_76 : decode cX8_restClauses 76 = .ok (.iload 4, 2) := by decide +kernel
theorem dX8_restClauses_78 : decode cX8_restClauses 78 = .ok (.aload_n 0, 1) := by decide +kernel
theorem dX8_restClauses_79 : decode cX8_restClauses 79 = .ok (.getfield 13, 3) := by decide +kernel
theorem dX8_restClauses_82 : decode cX8_restClauses 82 = .ok (.if_icmp .ge 54, 3) := by decide +kernel
theorem dX8_restClauses_85 : decode cX8_restClauses 85 = .ok (.aload_n 0, 1) := by decide +kernel
theorem dX8_restClauses_86 : decode cX8_restClauses 86 = .ok (.iload_n 2, 1) := by decide +kernel
theorem dX8_restClauses_87 : decode cX8_restClauses 87 = .ok (.invokevirtual 126, 3) := by decide +kernel
theorem dX8_restClauses_90 : decode cX8_restClauses 90 = .ok (.aload_n 0, 1) := by decide +kernel
theorem dX8_restClauses_91 : decode cX8_restClauses 91 = .ok (.aload_n 0, 1) := by decide +kernel
theorem dX8_restClauses_92 : decode cX8_restClauses 92 = .ok (.iload_n 1, 1) := by decide +kernel
theorem dX8_restClauses_93 : decode cX8_restClauses 93 = .ok (.iload_n 3, 1) := by decide +kernel
theorem dX8_restClauses_94 : decode cX8_restClauses 94 = .ok (.invokevirtual 106, 3) := by decide +kernel
theorem dX8_restClauses_97 : decode cX8_restClauses 97 = .ok (.invokevirtual 126, 3) := by decide +kernel
theorem dX8_restClauses_100 : decode cX8_restClauses 100 = .ok (.aload_n 0, 1) := by decide +kernel
theorem dX8_restClauses_101 : decode cX8_restClauses 101 = .ok (.aload_n 0, 1) := by decide +kernel
theorem dX8_restClauses_102 : decode cX8_restClauses 102 = .ok (.iload_n 1, 1) := by decide +kernel
theorem dX8_restClauses_103 : decode cX8_restClauses 103 = .ok (.iload_n 3, 1) := by decide +kernel
theorem dX8_restClauses_104 : decode cX8_restClauses 104 = .ok (.iload 4, 2) := by decide +kernel
theorem dX8_restClauses_106 : decode cX8_restClauses 106 = .ok (.invokevirtual 102, 3) := by decide +kernel
theorem dX8_restClauses_109 : decode cX8_restClauses 109 = .ok (.invokevirtual 126, 3) := by decide +kernel
theorem dX8_restClauses_112 : decode cX8_restClauses 112 = .ok (.aload_n 0, 1) := by decide +kernel
theorem dX8_restClauses_113 : decode cX8_restClauses 113 = .ok (.aload_n 0, 1) := by decide +kernel
theorem dX8_restClauses_114 : decode cX8_restClauses 114 = .ok (.iload_n 1, 1) := by decide +kernel
theorem dX8_restClauses_115 : decode cX8_restClauses 115 = .ok (.iconst 1, 1) := by decide +kernel
theorem dX8_restClauses_116 : decode cX8_restClauses 116 = .ok (.iadd, 1) := by decide +kernel
theorem dX8_restClauses_117 : decode cX8_restClauses 117 = .ok (.iload_n 3, 1) := by decide +kernel
theorem dX8_restClauses_118 : decode cX8_restClauses 118 = .ok (.iload 4, 2) := by decide +kernel
theorem dX8_restClauses_120 : decode cX8_restClauses 120 = .ok (.invokevirtual 102, 3) := by decide +kernel
theorem dX8_restClauses_123 : decode cX8_restClauses 123 = .ok (.invokevirtual 119, 3) := by decide +kernel
theorem dX8_restClauses_126 : decode cX8_restClauses 126 = .ok (.aload_n 0, 1) := by decide +kernel
theorem dX8_restClauses_127 : decode cX8_restClauses 127 = .ok (.invokevirtual 123, 3) := by decide +kernel
theorem dX8_restClauses_130 : decode cX8_restClauses 130 = .ok (.iinc 4 1, 3) := by decide +kernel
theorem dX8_restClauses_133 : decode cX8_restClauses 133 = .ok (.goto (-57), 3) := by decide +kernel
theorem dX8_restClauses_136 : decode cX8_restClauses 136 = .ok (.iinc 3 1, 3) := by decide +kernel
theorem dX8_restClauses_139 : decode cX8_restClauses 139 = .ok (.goto (-93), 3) := by decide +kernel
theorem dX8_restClauses_142 : decode cX8_restClauses 142 = .ok (.return_, 1) := by decide +kernel
set_option maxRecDepth 20000 in
theorem ggX8_steps_X8_k : GoodIn wsX8_steps wsX8_k := goodIn_r _ [8, 1, 2, 9, 10, 11, 7, 12, 13, 14, 15, 16, 17, 18, 19, 20, 21, 3, 62, 63, 64, 65, 66, 67, 68, 69, 70, 71, 72, 73, 74, 75, 76, 77, 78, 79, 80, 81, 82, 83, 84, 85, 86, 87, 88, 89, 90, 91, 92, 93, 94, 95, 96, 97, 98] (by decide +kernel) (by decide +kernel)
set_option maxRecDepth 20000 in
theorem gX8_steps_X8_k : GoodIn wsX8_steps (wsV RX8 136 RX8 yX8_k wsX8_k) := goodIn_app (goodIn_of _ (by decide +kernel)) ggX8_steps_X8_k
set_option maxRecDepth 20000 in
theorem ggX8_steps_X8_is : GoodIn wsX8_steps wsX8_is := goodIn_r _ [25, 26, 27, 62, 63, 64, 65, 66, 67, 68, 69, 70, 71, 72, 73, 74, 75, 76, 77, 78, 79, 80, 81, 82, 83, 84, 85, 86, 87, 88, 89, 90, 91, 92, 93, 94, 95, 96, 97, 98] (by decide +kernel) (by decide +kernel)
set_option maxRecDepth 20000 in
theorem gX8_steps_X8_is : GoodIn wsX8_steps (wsV RX8 119 RX8 yX8_is wsX8_is) := goodIn_app (goodIn_of _ (by decide +kernel)) ggX8_steps_X8_is
set_option maxRecDepth 20000 in
theorem ggX8_steps_X8_close : GoodIn wsX8_steps wsX8_close := goodIn_r _ [31, 32, 33, 27, 62, 63, 64, 65, 66, 67, 68, 69, 70, 71, 72, 73, 74, 75, 76, 77, 78, 79, 80, 81, 82, 83, 84, 85, 86, 87, 88, 89, 90, 91, 92, 93, 94, 95, 96, 97, 98] (by decide +kernel) (by decide +kernel)
set_option maxRecDepth 20000 in
theorem gX8_steps_X8_close : GoodIn wsX8_steps (wsV RX8 123 RX8 yX8_close wsX8_close) := goodIn_app (goodIn_of _ (by decide +kernel)) ggX8_steps_X8_close
set_option maxRecDepth 20000 in
theorem ggX8_steps_X8_ruleClauses : GoodIn wsX8_steps wsX8_ruleClauses := goodIn_r _ [37, 38, 39, 1, 40, 41, 42, 4, 5, 6, 7, 8, 2, 9, 10, 11, 12, 13, 14, 15, 16, 17, 18, 19, 20, 21, 3, 43, 44, 45, 46, 47, 48, 49, 50, 26, 27, 22, 23, 24, 25, 28, 29, 30, 31, 32, 33, 51, 52, 53, 54, 55, 56, 57, 62, 63, 64, 65, 66, 67, 68, 69, 70, 71, 72, 73, 74, 75, 76, 77, 78, 79, 80, 81, 82, 83, 84, 85, 86, 87, 88, 89, 90, 91, 92, 93, 94, 95, 96, 97, 98] (by decide +kernel) (by decide +kernel)
set_option maxRecDepth 20000 in
theorem gX8_steps_X8_ruleClauses : GoodIn wsX8_steps (wsV RX8 146 RX8 yX8_ruleClauses wsX8_ruleClauses) := goodIn_app (goodIn_of _ (by decide +kernel)) ggX8_steps_X8_ruleClauses
set_option maxRecDepth 20000 in
theorem ggX8_steps_X8_restClauses : GoodIn wsX8_steps wsX8_restClauses := goodIn_r _ [61, 2, 13, 1, 3, 4, 5, 6, 7, 8, 9, 10, 11, 12, 14, 15, 16, 17, 18, 19, 20, 21, 43, 44, 45, 46, 47, 48, 49, 50, 26, 27, 22, 23, 24, 25, 28, 29, 30, 31, 32, 33, 51, 52, 53, 54, 62, 63, 64, 65, 66, 67, 68, 69, 70, 71, 72, 73, 74, 75, 76, 77, 78, 79, 80, 81, 82, 83, 84, 85, 86, 87, 88, 89, 90, 91, 92, 93, 94, 95, 96, 97, 98] (by decide +kernel) (by decide +kernel)
set_option maxRecDepth 20000 in
theorem gX8_steps_X8_restClauses : GoodIn wsX8_steps (wsV RX8 149 RX8 yX8_restClauses wsX8_restClauses) := goodIn_app (goodIn_of _ (by decide +kernel)) ggX8_steps_X8_restClauses
set_option maxRecDepth 20000 in
theorem ggX8_steps_X8_h : GoodIn wsX8_steps wsX8_h := goodIn_r _ [17, 1, 18, 19, 20, 7, 21, 3, 62, 63, 64, 65, 66, 67, 68, 69, 70, 71, 72, 73, 74, 75, 76, 77, 78, 79, 80, 81, 82, 83, 84, 85, 86, 87, 88, 89, 90, 91, 92, 93, 94, 95, 96, 97, 98] (by decide +kernel) (by decide +kernel)
set_option maxRecDepth 20000 in
theorem gX8_steps_X8_h : GoodIn wsX8_steps (wsV RX8 106 RX8 yX8_h wsX8_h) := goodIn_app (goodIn_of _ (by decide +kernel)) ggX8_steps_X8_h
set_option maxRecDepth 20000 in
theorem ggX8_steps_X8_c : GoodIn wsX8_steps wsX8_c := goodIn_r _ [21, 1, 3, 62, 63, 64, 65, 66, 67, 68, 69, 70, 71, 72, 73, 74, 75, 76, 77, 78, 79, 80, 81, 82, 83, 84, 85, 86, 87, 88, 89, 90, 91, 92, 93, 94, 95, 96, 97, 98] (by decide +kernel) (by decide +kernel)
set_option maxRecDepth 20000 in
theorem gX8_steps_X8_c : GoodIn wsX8_steps (wsV RX8 102 RX8 yX8_c wsX8_c) := goodIn_app (goodIn_of _ (by decide +kernel)) ggX8_steps_X8_c
set_option maxRecDepth 20000 in
theorem ggX8_steps_X8_not : GoodIn wsX8_steps wsX8_not := goodIn_r _ [50, 26, 27, 62, 63, 64, 65, 66, 67, 68, 69, 70, 71, 72, 73, 74, 75, 76, 77, 78, 79, 80, 81, 82, 83, 84, 85, 86, 87, 88, 89, 90, 91, 92, 93, 94, 95, 96, 97, 98] (by decide +kernel) (by decide +kernel)
set_option maxRecDepth 20000 in
theorem gX8_steps_X8_not : GoodIn wsX8_steps (wsV RX8 126 RX8 yX8_not wsX8_not) := goodIn_app (goodIn_of _ (by decide +kernel)) ggX8_steps_X8_not
theorem dX8_steps_0 : decode cX8_steps 0 = .ok (.iconst 0, 1) := by decide +kernel
theorem dX8_steps_1 : decode cX8_steps 1 = .ok (.istore_n 1, 1) := by decide +kernel
theorem dX8_steps_2 : decode cX8_steps 2 = .ok (.iload_n 1, 1) := by decide +kernel
theorem dX8_steps_3 : decode cX8_steps 3 = .ok (.aload_n 0, 1) := by decide +kernel
theorem dX8_steps_4 : decode cX8_steps 4 = .ok (.getfield 16, 3) := by decide +kernel
theorem dX8_steps_7 : decode cX8_steps 7 = .ok (.if_icmp .ge 136, 3) := by decide +kernel
theorem dX8_steps_10 : decode cX8_steps 10 = .ok (.iconst 0, 1) := by decide +kernel
theorem dX8_steps_11 : decode cX8_steps 11 = .ok (.istore_n 2, 1) := by decide +kernel
theorem dX8_steps_12 : decode cX8_steps 12 = .ok (.iload_n 2, 1) := by decide +kernel
theorem dX8_steps_13 : decode cX8_steps 13 = .ok (.aload_n 0, 1) := by decide +kernel
theorem dX8_steps_14 : decode cX8_steps 14 = .ok (.getfield 96, 3) := by decide +kernel
theorem dX8_steps_17 : decode cX8_steps 17 = .ok (.if_icmp .gt 19, 3) := by decide +kernel
theorem dX8_steps_20 : decode cX8_steps 20 = .ok (.aload_n 0, 1) := by decide +kernel
theorem dX8_steps_21 : decode cX8_steps 21 = .ok (.aload_n 0, 1) := by decide +kernel
theorem dX8_steps_22 : decode cX8_steps 22 = .ok (.iload_n 1, 1) := by decide +kernel
theorem dX8_steps_23 : decode cX8_steps 23 = .ok (.iload_n 2, 1) := by decide +kernel
theorem dX8_steps_24 : decode cX8_steps 24 = .ok (.invokevirtual 136, 3) := by decide +kernel
theorem dX8_steps_27 : decode cX8_steps 27 = .ok (.invokevirtual 119, 3) := by decide +kernel
theorem dX8_steps_30 : decode cX8_steps 30 = .ok (.iinc 2 1, 3) := by decide +kernel
theorem dX8_steps_33 : decode cX8_steps 33 = .ok (.goto (-21), 3) := by decide +kernel
theorem dX8_steps_36 : decode cX8_steps 36 = .ok (.aload_n 0, 1) := by decide +kernel
theorem dX8_steps_37 : decode cX8_steps 37 = .ok (.invokevirtual 123, 3) := by decide +kernel
theorem dX8_steps_40 : decode cX8_steps 40 = .ok (.iconst 0, 1) := by decide +kernel
theorem dX8_steps_41 : decode cX8_steps 41 = .ok (.istore_n 2, 1) := by decide +kernel
theorem dX8_steps_42 : decode cX8_steps 42 = .ok (.iload_n 2, 1) := by decide +kernel
theorem dX8_steps_43 : decode cX8_steps 43 = .ok (.aload_n 0, 1) := by decide +kernel
theorem dX8_steps_44 : decode cX8_steps 44 = .ok (.getfield 96, 3) := by decide +kernel
theorem dX8_steps_47 : decode cX8_steps 47 = .ok (.if_icmp .ge 15, 3) := by decide +kernel
theorem dX8_steps_50 : decode cX8_steps 50 = .ok (.aload_n 0, 1) := by decide +kernel
theorem dX8_steps_51 : decode cX8_steps 51 = .ok (.iload_n 1, 1) := by decide +kernel
theorem dX8_steps_52 : decode cX8_steps 52 = .ok (.iload_n 2, 1) := by decide +kernel
theorem dX8_steps_53 : decode cX8_steps 53 = .ok (.invokevirtual 146, 3) := by decide +kernel
theorem dX8_steps_56 : decode cX8_steps 56 = .ok (.iinc 2 1, 3) := by decide +kernel
theorem dX8_steps_59 : decode cX8_steps 59 = .ok (.goto (-17), 3) := by decide +kernel
theorem dX8_steps_62 : decode cX8_steps 62 = .ok (.aload_n 0, 1) := by decide +kernel
theorem dX8_steps_63 : decode cX8_steps 63 = .ok (.iload_n 1, 1) := by decide +kernel
theorem dX8_steps_64 : decode cX8_steps 64 = .ok (.invokevirtual 149, 3) := by decide +kernel
theorem dX8_steps_67 : decode cX8_steps 67 = .ok (.iconst 0, 1) := by decide +kernel
theorem dX8_steps_68 : decode cX8_steps 68 = .ok (.istore_n 2, 1) := by decide +kernel
theorem dX8_steps_69 : decode cX8_steps 69 = .ok (.iload_n 2, 1) := by decide +kernel
theorem dX8_steps_70 : decode cX8_steps 70 = .ok (.aload_n 0, 1) := by decide +kernel
theorem dX8_steps_71 : decode cX8_steps 71 = .ok (.getfield 16, 3) := by decide +kernel
theorem dX8_steps_74 : decode cX8_steps 74 = .ok (.if_icmp .gt 63, 3) := by decide +kernel
theorem dX8_steps_77 : decode cX8_steps 77 = .ok (.iconst 0, 1) := by decide +kernel
theorem dX8_steps_78 : decode cX8_steps 78 = .ok (.istore_n 3, 1) := by decide +kernel
theorem dX8_steps_79 : decode cX8_steps 79 = .ok (.iload_n 3, 1) := by decide +kernel
theorem dX8_steps_80 : decode cX8_steps 80 = .ok (.aload_n 0, 1) := by decide +kernel
theorem dX8_steps_81 : decode cX8_steps 81 = .ok (.getfield 13, 3) := by decide +kernel
theorem dX8_steps_84 : decode cX8_steps 84 = .ok (.if_icmp .ge 47, 3) := by decide +kernel
theorem dX8_steps_87 : decode cX8_steps 87 = .ok (.aload_n 0, 1) := by decide +kernel
theorem dX8_steps_88 : decode cX8_steps 88 = .ok (.aload_n 0, 1) := by decide +kernel
theorem dX8_steps_89 : decode cX8_steps 89 = .ok (.iload_n 1, 1) := by decide +kernel
theorem dX8_steps_90 : decode cX8_steps 90 = .ok (.iload_n 2, 1) := by decide +kernel
theorem dX8_steps_91 : decode cX8_steps 91 = .ok (.invokevirtual 106, 3) := by decide +kernel
theorem dX8_steps_94 : decode cX8_steps 94 = .ok (.invokevirtual 119, 3) := by decide +kernel
theorem dX8_steps_97 : decode cX8_steps 97 = .ok (.aload_n 0, 1) := by decide +kernel
theorem dX8_steps_98 : decode cX8_steps 98 = .ok (.aload_n 0, 1) := by decide +kernel
theorem dX8_steps_99 : decode cX8_steps 99 = .ok (.iload_n 1, 1) := by decide +kernel
theorem dX8_steps_100 : decode cX8_steps 100 = .ok (.iload_n 2, 1) := by decide +kernel
theorem dX8_steps_101 : decode cX8_steps 101 = .ok (.iload_n 3, 1) := by decide +kernel
theorem dX8_steps_102 : decode cX8_steps 102 = .ok (.invokevirtual 102, 3) := by decide +kernel
theorem dX8_steps_105 : decode cX8_steps 105 = .ok (.invokevirtual 126, 3) := by decide +kernel
theorem dX8_steps_108 : decode cX8_steps 108 = .ok (.aload_n 0, 1) := by decide +kernel
theorem dX8_steps_109 : decode cX8_steps 109 = .ok (.aload_n 0, 1) := by decide +kernel
theorem dX8_steps_110 : decode cX8_steps 110 = .ok (.iload_n 1, 1) := by decide +kernel
theorem dX8_steps_111 : decode cX8_steps 111 = .ok (.iconst 1, 1) := by decide +kernel
theorem dX8_steps_112 : decode cX8_steps 112 = .ok (.iadd, 1) := by decide +kernel
theorem dX8_steps_113 : decode cX8_steps 113 = .ok (.iload_n 2, 1) := by decide +kernel
theorem dX8_steps_114 : decode cX8_steps 114 = .ok (.iload_n 3, 1) := by decide +kernel
theorem dX8_steps_115 : decode cX8_steps 115 = .ok (.invokevirtual 102, 3) := by decide +kernel
theorem dX8_steps_118 : decode cX8_steps 118 = .ok (.invokevirtual 119, 3) := by decide +kernel
theorem dX8_steps_121 : decode cX8_steps 121 = .ok (.aload_n 0, 1) := by decide +kernel
theorem dX8_steps_122 : decode cX8_steps 122 = .ok (.invokevirtual 123, 3) := by decide +kernel
theorem dX8_steps_125 : decode cX8_steps 125 = .ok (.iinc 3 1, 3) := by decide +kernel
theorem dX8_steps_128 : decode cX8_steps 128 = .ok (.goto (-49), 3) := by decide +kernel
theorem dX8_steps_131 : decode cX8_steps 131 = .ok (.iinc 2 1, 3) := by decide +kernel
theorem dX8_steps_134 : decode cX8_steps 134 = .ok (.goto (-65), 3) := by decide +kernel
theorem dX8_steps_137 : decode cX8_steps 137 = .ok (.iinc 1 1, 3) := by decide +kernel
theorem dX8_steps_140 : decode cX8_steps 140 = .ok (.goto (-138), 3) := by decide +kernel
theorem dX8_steps_143 : decode cX8_steps 143 = .ok (.return_, 1) := by decide +kernel
theorem dX8_lay_0 : decode cX8_lay 0 = .ok (.aload_n 0, 1) := by decide +kernel
theorem dX8_lay_1 : decode cX8_lay 1 = .ok (.getfield 44, 3) := by decide +kernel
theorem dX8_lay_4 : decode cX8_lay 4 = .ok (.iconst 3, 1) := by decide +kernel
theorem dX8_lay_5 : decode cX8_lay 5 = .ok (.aload_n 0, 1) := by decide +kernel
theorem dX8_lay_6 : decode cX8_lay 6 = .ok (.getfield 152, 3) := by decide +kernel
theorem dX8_lay_9 : decode cX8_lay 9 = .ok (.imul, 1) := by decide +kernel
theorem dX8_lay_10 : decode cX8_lay 10 = .ok (.iload_n 1, 1) := by decide +kernel
theorem dX8_lay_11 : decode cX8_lay 11 = .ok (.iastore, 1) := by decide +kernel
theorem dX8_lay_12 : decode cX8_lay 12 = .ok (.aload_n 0, 1) := by decide +kernel
theorem dX8_lay_13 : decode cX8_lay 13 = .ok (.getfield 44, 3) := by decide +kernel
theorem dX8_lay_16 : decode cX8_lay 16 = .ok (.iconst 3, 1) := by decide +kernel
theorem dX8_lay_17 : decode cX8_lay 17 = .ok (.aload_n 0, 1) := by decide +kernel
theorem dX8_lay_18 : decode cX8_lay 18 = .ok (.getfield 152, 3) := by decide +kernel
theorem dX8_lay_21 : decode cX8_lay 21 = .ok (.imul, 1) := by decide +kernel
theorem dX8_lay_22 : decode cX8_lay 22 = .ok (.iconst 1, 1) := by decide +kernel
theorem dX8_lay_23 : decode cX8_lay 23 = .ok (.iadd, 1) := by decide +kernel
theorem dX8_lay_24 : decode cX8_lay 24 = .ok (.iload_n 2, 1) := by decide +kernel
theorem dX8_lay_25 : decode cX8_lay 25 = .ok (.iastore, 1) := by decide +kernel
theorem dX8_lay_26 : decode cX8_lay 26 = .ok (.aload_n 0, 1) := by decide +kernel
theorem dX8_lay_27 : decode cX8_lay 27 = .ok (.getfield 44, 3) := by decide +kernel
theorem dX8_lay_30 : decode cX8_lay 30 = .ok (.iconst 3, 1) := by decide +kernel
theorem dX8_lay_31 : decode cX8_lay 31 = .ok (.aload_n 0, 1) := by decide +kernel
theorem dX8_lay_32 : decode cX8_lay 32 = .ok (.getfield 152, 3) := by decide +kernel
theorem dX8_lay_35 : decode cX8_lay 35 = .ok (.imul, 1) := by decide +kernel
theorem dX8_lay_36 : decode cX8_lay 36 = .ok (.iconst 2, 1) := by decide +kernel
theorem dX8_lay_37 : decode cX8_lay 37 = .ok (.iadd, 1) := by decide +kernel
theorem dX8_lay_38 : decode cX8_lay 38 = .ok (.iload_n 3, 1) := by decide +kernel
theorem dX8_lay_39 : decode cX8_lay 39 = .ok (.iastore, 1) := by decide +kernel
theorem dX8_lay_40 : decode cX8_lay 40 = .ok (.aload_n 0, 1) := by decide +kernel
theorem dX8_lay_41 : decode cX8_lay 41 = .ok (.dup, 1) := by decide +kernel
theorem dX8_lay_42 : decode cX8_lay 42 = .ok (.getfield 152, 3) := by decide +kernel
theorem dX8_lay_45 : decode cX8_lay 45 = .ok (.iconst 1, 1) := by decide +kernel
theorem dX8_lay_46 : decode cX8_lay 46 = .ok (.iadd, 1) := by decide +kernel
theorem dX8_lay_47 : decode cX8_lay 47 = .ok (.putfield 152, 3) := by decide +kernel
theorem dX8_lay_50 : decode cX8_lay 50 = .ok (.return_, 1) := by decide +kernel
set_option maxRecDepth 20000 in
theorem ggX8_split_X8_lay : GoodIn wsX8_split wsX8_lay := goodIn_r _ [7, 8, 9, 10, 11, 12, 13, 14, 15, 16, 17, 18, 19, 20, 21, 22, 23, 24, 25, 26, 27, 28, 29, 30, 31, 32, 33, 34, 35, 36, 37, 38, 39, 40, 41, 42, 43, 44, 45, 46] (by decide +kernel) (by decide +kernel)
set_option maxRecDepth 20000 in
theorem gX8_split_X8_lay : GoodIn wsX8_split (wsV RX8 155 RX8 yX8_lay wsX8_lay) := goodIn_app (goodIn_of _ (by decide +kernel)) ggX8_split_X8_lay
theorem dX8_split_0 : decode cX8_split 0 = .ok (.iload_n 2, 1) := by decide +kernel
theorem dX8_split_1 : decode cX8_split 1 = .ok (.iconst 4, 1) := by decide +kernel
theorem dX8_split_2 : decode cX8_split 2 = .ok (.if_icmp .ge 41, 3) := by decide +kernel
theorem dX8_split_5 : decode cX8_split 5 = .ok (.aload_n 0, 1) := by decide +kernel
theorem dX8_split_6 : decode cX8_split 6 = .ok (.aload_n 0, 1) := by decide +kernel
theorem dX8_split_7 : decode cX8_split 7 = .ok (.getfield 41, 3) := by decide +kernel
theorem dX8_split_10 : decode cX8_split 10 = .ok (.iload_n 1, 1) := by decide +kernel
theorem dX8_split_11 : decode cX8_split 11 = .ok (.iaload, 1) := by decide +kernel
theorem dX8_split_12 : decode cX8_split 12 = .ok (.aload_n 0, 1) := by decide +kernel
theorem dX8_split_13 : decode cX8_split 13 = .ok (.getfield 41, 3) := by decide +kernel
theorem dX8_split_16 : decode cX8_split 16 = .ok (.iload_n 1, 1) := by decide +kernel
theorem dX8_split_17 : decode cX8_split 17 = .ok (.iload_n 2, 1) := by decide +kernel
theorem dX8_split_18 : decode cX8_split 18 = .ok (.iconst 1, 1) := by decide +kernel
theorem dX8_split_19 : decode cX8_split 19 = .ok (.if_icmp .le 7, 3) := by decide +kernel
theorem dX8_split_22 : decode cX8_split 22 = .ok (.iconst 1, 1) := by decide +kernel
theorem dX8_split_23 : decode cX8_split 23 = .ok (.goto 4, 3) := by decide +kernel
theorem dX8_split_26 : decode cX8_split 26 = .ok (.iconst 0, 1) := by decide +kernel
theorem dX8_split_27 : decode cX8_split 27 = .ok (.iadd, 1) := by decide +kernel
theorem dX8_split_28 : decode cX8_split 28 = .ok (.iaload, 1) := by decide +kernel
theorem dX8_split_29 : decode cX8_split 29 = .ok (.aload_n 0, 1) := by decide +kernel
theorem dX8_split_30 : decode cX8_split 30 = .ok (.getfield 41, 3) := by decide +kernel
theorem dX8_split_33 : decode cX8_split 33 = .ok (.iload_n 1, 1) := by decide +kernel
theorem dX8_split_34 : decode cX8_split 34 = .ok (.iload_n 2, 1) := by decide +kernel
theorem dX8_split_35 : decode cX8_split 35 = .ok (.iadd, 1) := by decide +kernel
theorem dX8_split_36 : decode cX8_split 36 = .ok (.iconst 1, 1) := by decide +kernel
theorem dX8_split_37 : decode cX8_split 37 = .ok (.isub, 1) := by decide +kernel
theorem dX8_split_38 : decode cX8_split 38 = .ok (.iaload, 1) := by decide +kernel
theorem dX8_split_39 : decode cX8_split 39 = .ok (.invokevirtual 155, 3) := by decide +kernel
theorem dX8_split_42 : decode cX8_split 42 = .ok (.return_, 1) := by decide +kernel
theorem dX8_split_43 : decode cX8_split 43 = .ok (.aload_n 0, 1) := by decide +kernel
theorem dX8_split_44 : decode cX8_split 44 = .ok (.aload_n 0, 1) := by decide +kernel
theorem dX8_split_45 : decode cX8_split 45 = .ok (.getfield 41, 3) := by decide +kernel
theorem dX8_split_48 : decode cX8_split 48 = .ok (.iload_n 1, 1) := by decide +kernel
theorem dX8_split_49 : decode cX8_split 49 = .ok (.iaload, 1) := by decide +kernel
theorem dX8_split_50 : decode cX8_split 50 = .ok (.aload_n 0, 1) := by decide +kernel
theorem dX8_split_51 : decode cX8_split 51 = .ok (.getfield 41, 3) := by decide +kernel
theorem dX8_split_54 : decode cX8_split 54 = .ok (.iload_n 1, 1) := by decide +kernel
theorem dX8_split_55 : decode cX8_split 55 = .ok (.iconst 1, 1) := by decide +kernel
theorem dX8_split_56 : decode cX8_split 56 = .ok (.iadd, 1) := by decide +kernel
theorem dX8_split_57 : decode cX8_split 57 = .ok (.iaload, 1) := by decide +kernel
theorem dX8_split_58 : decode cX8_split 58 = .ok (.iconst 2, 1) := by decide +kernel
theorem dX8_split_59 : decode cX8_split 59 = .ok (.aload_n 0, 1) := by decide +kernel
theorem dX8_split_60 : decode cX8_split 60 = .ok (.getfield 158, 3) := by decide +kernel
theorem dX8_split_63 : decode cX8_split 63 = .ok (.imul, 1) := by decide +kernel
theorem dX8_split_64 : decode cX8_split 64 = .ok (.invokevirtual 155, 3) := by decide +kernel
theorem dX8_split_67 : decode cX8_split 67 = .ok (.iconst 2, 1) := by decide +kernel
theorem dX8_split_68 : decode cX8_split 68 = .ok (.istore_n 3, 1) := by decide +kernel
theorem dX8_split_69 : decode cX8_split 69 = .ok (.iload_n 3, 1) := by decide +kernel
theorem dX8_split_70 : decode cX8_split 70 = .ok (.iload_n 2, 1) := by decide +kernel
theorem dX8_split_71 : decode cX8_split 71 = .ok (.iconst 2, 1) := by decide +kernel
theorem dX8_split_72 : decode cX8_split 72 = .ok (.isub, 1) := by decide +kernel
theorem dX8_split_73 : decode cX8_split 73 = .ok (.if_icmp .ge 47, 3) := by decide +kernel
theorem dX8_split_76 : decode cX8_split 76 = .ok (.aload_n 0, 1) := by decide +kernel
theorem dX8_split_77 : decode cX8_split 77 = .ok (.iconst 2, 1) := by decide +kernel
theorem dX8_split_78 : decode cX8_split 78 = .ok (.aload_n 0, 1) := by decide +kernel
theorem dX8_split_79 : decode cX8_split 79 = .ok (.getfield 158, 3) := by decide +kernel
theorem dX8_split_82 : decode cX8_split 82 = .ok (.imul, 1) := by decide +kernel
theorem dX8_split_83 : decode cX8_split 83 = .ok (.iconst 1, 1) := by decide +kernel
theorem dX8_split_84 : decode cX8_split 84 = .ok (.iadd, 1) := by decide +kernel
theorem dX8_split_85 : decode cX8_split 85 = .ok (.aload_n 0, 1) := by decide +kernel
theorem dX8_split_86 : decode cX8_split 86 = .ok (.getfield 41, 3) := by decide +kernel
theorem dX8_split_89 : decode cX8_split 89 = .ok (.iload_n 1, 1) := by decide +kernel
theorem dX8_split_90 : decode cX8_split 90 = .ok (.iload_n 3, 1) := by decide +kernel
theorem dX8_split_91 : decode cX8_split 91 = .ok (.iadd, 1) := by decide +kernel
theorem dX8_split_92 : decode cX8_split 92 = .ok (.iaload, 1) := by decide +kernel
theorem dX8_split_93 : decode cX8_split 93 = .ok (.iconst 2, 1) := by decide +kernel
theorem dX8_split_94 : decode cX8_split 94 = .ok (.aload_n 0, 1) := by decide +kernel
theorem dX8_split_95 : decode cX8_split 95 = .ok (.getfield 158, 3) := by decide +kernel
theorem dX8_split_98 : decode cX8_split 98 = .ok (.imul, 1) := by decide +kernel
theorem dX8_split_99 : decode cX8_split 99 = .ok (.iconst 2, 1) := by decide +kernel
theorem dX8_split_100 : decode cX8_split 100 = .ok (.iadd, 1) := by decide +kernel
theorem dX8_split_101 : decode cX8_split 101 = .ok (.invokevirtual 155, 3) := by decide +kernel
theorem dX8_split_104 : decode cX8_split 104 = .ok (.aload_n 0, 1) := by decide +kernel
theorem dX8_split_105 : decode cX8_split 105 = .ok (.dup, 1) := by decide +kernel
theorem dX8_split_106 : decode cX8_split 106 = .ok (.getfield 158, 3) := by decide +kernel
theorem dX8_split_109 : decode cX8_split 109 = .ok (.iconst 1, 1) := by decide +kernel
theorem dX8_split_110 : decode cX8_split 110 = .ok (.iadd, 1) := by decide +kernel
theorem dX8_split_111 : decode cX8_split 111 = .ok (.putfield 158, 3) := by decide +kernel
theorem dX8_split_114 : decode cX8_split 114 = .ok (.iinc 3 1, 3) := by decide +kernel
theorem dX8_split_117 : decode cX8_split 117 = .ok (.goto (-48), 3) := by decide +kernel
theorem dX8_split_120 : decode cX8_split 120 = .ok (.aload_n 0, 1) := by decide +kernel
theorem dX8_split_121 : decode cX8_split 121 = .ok (.iconst 2, 1) := by decide +kernel
theorem dX8_split_122 : decode cX8_split 122 = .ok (.aload_n 0, 1) := by decide +kernel
theorem dX8_split_123 : decode cX8_split 123 = .ok (.getfield 158, 3) := by decide +kernel
theorem dX8_split_126 : decode cX8_split 126 = .ok (.imul, 1) := by decide +kernel
theorem dX8_split_127 : decode cX8_split 127 = .ok (.iconst 1, 1) := by decide +kernel
theorem dX8_split_128 : decode cX8_split 128 = .ok (.iadd, 1) := by decide +kernel
theorem dX8_split_129 : decode cX8_split 129 = .ok (.aload_n 0, 1) := by decide +kernel
theorem dX8_split_130 : decode cX8_split 130 = .ok (.getfield 41, 3) := by decide +kernel
theorem dX8_split_133 : decode cX8_split 133 = .ok (.iload_n 1, 1) := by decide +kernel
theorem dX8_split_134 : decode cX8_split 134 = .ok (.iload_n 2, 1) := by decide +kernel
theorem dX8_split_135 : decode cX8_split 135 = .ok (.iadd, 1) := by decide +kernel
theorem dX8_split_136 : decode cX8_split 136 = .ok (.iconst 2, 1) := by decide +kernel
theorem dX8_split_137 : decode cX8_split 137 = .ok (.isub, 1) := by decide +kernel
theorem dX8_split_138 : decode cX8_split 138 = .ok (.iaload, 1) := by decide +kernel
theorem dX8_split_139 : decode cX8_split 139 = .ok (.aload_n 0, 1) := by decide +kernel
theorem dX8_split_140 : decode cX8_split 140 = .ok (.getfield 41, 3) := by decide +kernel
theorem dX8_split_143 : decode cX8_split 143 = .ok (.iload_n 1, 1) := by decide +kernel
theorem dX8_split_144 : decode cX8_split 144 = .ok (.iload_n 2, 1) := by decide +kernel
theorem dX8_split_145 : decode cX8_split 145 = .ok (.iadd, 1) := by decide +kernel
theorem dX8_split_146 : decode cX8_split 146 = .ok (.iconst 1, 1) := by decide +kernel
theorem dX8_split_147 : decode cX8_split 147 = .ok (.isub, 1) := by decide +kernel
theorem dX8_split_148 : decode cX8_split 148 = .ok (.iaload, 1) := by decide +kernel
theorem dX8_split_149 : decode cX8_split 149 = .ok (.invokevirtual 155, 3) := by decide +kernel
theorem dX8_split_152 : decode cX8_split 152 = .ok (.aload_n 0, 1) := by decide +kernel
theorem dX8_split_153 : decode cX8_split 153 = .ok (.dup, 1) := by decide +kernel
theorem dX8_split_154 : decode cX8_split 154 = .ok (.getfield 158, 3) := by decide +kernel
theorem dX8_split_157 : decode cX8_split 157 = .ok (.iconst 1, 1) := by decide +kernel
theorem dX8_split_158 : decode cX8_split 158 = .ok (.iadd, 1) := by decide +kernel
theorem dX8_split_159 : decode cX8_split 159 = .ok (.putfield 158, 3) := by decide +kernel
theorem dX8_split_162 : decode cX8_split 162 = .ok (.return_, 1) := by decide +kernel
theorem dX8_vertexAt_0 : decode cX8_vertexAt 0 = .ok (.iload_n 1, 1) := by decide +kernel
theorem dX8_vertexAt_1 : decode cX8_vertexAt 1 = .ok (.aload_n 0, 1) := by decide +kernel
theorem dX8_vertexAt_2 : decode cX8_vertexAt 2 = .ok (.getfield 158, 3) := by decide +kernel
theorem dX8_vertexAt_5 : decode cX8_vertexAt 5 = .ok (.if_icmp .ge 9, 3) := by decide +kernel
theorem dX8_vertexAt_8 : decode cX8_vertexAt 8 = .ok (.iconst 2, 1) := by decide +kernel
theorem dX8_vertexAt_9 : decode cX8_vertexAt 9 = .ok (.iload_n 1, 1) := by decide +kernel
theorem dX8_vertexAt_10 : decode cX8_vertexAt 10 = .ok (.imul, 1) := by decide +kernel
theorem dX8_vertexAt_11 : decode cX8_vertexAt 11 = .ok (.iload_n 2, 1) := by decide +kernel
theorem dX8_vertexAt_12 : decode cX8_vertexAt 12 = .ok (.iadd, 1) := by decide +kernel
theorem dX8_vertexAt_13 : decode cX8_vertexAt 13 = .ok (.ireturn, 1) := by decide +kernel
theorem dX8_vertexAt_14 : decode cX8_vertexAt 14 = .ok (.iload_n 1, 1) := by decide +kernel
theorem dX8_vertexAt_15 : decode cX8_vertexAt 15 = .ok (.aload_n 0, 1) := by decide +kernel
theorem dX8_vertexAt_16 : decode cX8_vertexAt 16 = .ok (.getfield 158, 3) := by decide +kernel
theorem dX8_vertexAt_19 : decode cX8_vertexAt 19 = .ok (.isub, 1) := by decide +kernel
theorem dX8_vertexAt_20 : decode cX8_vertexAt 20 = .ok (.bipush 6, 2) := by decide +kernel
theorem dX8_vertexAt_22 : decode cX8_vertexAt 22 = .ok (.idiv, 1) := by decide +kernel
theorem dX8_vertexAt_23 : decode cX8_vertexAt 23 = .ok (.istore_n 3, 1) := by decide +kernel
theorem dX8_vertexAt_24 : decode cX8_vertexAt 24 = .ok (.iload_n 1, 1) := by decide +kernel
theorem dX8_vertexAt_25 : decode cX8_vertexAt 25 = .ok (.aload_n 0, 1) := by decide +kernel
theorem dX8_vertexAt_26 : decode cX8_vertexAt 26 = .ok (.getfield 158, 3) := by decide +kernel
theorem dX8_vertexAt_29 : decode cX8_vertexAt 29 = .ok (.isub, 1) := by decide +kernel
theorem dX8_vertexAt_30 : decode cX8_vertexAt 30 = .ok (.bipush 6, 2) := by decide +kernel
theorem dX8_vertexAt_32 : decode cX8_vertexAt 32 = .ok (.irem, 1) := by decide +kernel
theorem dX8_vertexAt_33 : decode cX8_vertexAt 33 = .ok (.istore 4, 2) := by decide +kernel
theorem dX8_vertexAt_35 : decode cX8_vertexAt 35 = .ok (.iconst 2, 1) := by decide +kernel
theorem dX8_vertexAt_36 : decode cX8_vertexAt 36 = .ok (.aload_n 0, 1) := by decide +kernel
theorem dX8_vertexAt_37 : decode cX8_vertexAt 37 = .ok (.getfield 158, 3) := by decide +kernel
theorem dX8_vertexAt_40 : decode cX8_vertexAt 40 = .ok (.imul, 1) := by decide +kernel
theorem dX8_vertexAt_41 : decode cX8_vertexAt 41 = .ok (.iconst 3, 1) := by decide +kernel
theorem dX8_vertexAt_42 : decode cX8_vertexAt 42 = .ok (.iload_n 3, 1) := by decide +kernel
theorem dX8_vertexAt_43 : decode cX8_vertexAt 43 = .ok (.imul, 1) := by decide +kernel
theorem dX8_vertexAt_44 : decode cX8_vertexAt 44 = .ok (.iadd, 1) := by decide +kernel
theorem dX8_vertexAt_45 : decode cX8_vertexAt 45 = .ok (.istore 5, 2) := by decide +kernel
theorem dX8_vertexAt_47 : decode cX8_vertexAt 47 = .ok (.iload 4, 2) := by decide +kernel
theorem dX8_vertexAt_49 : decode cX8_vertexAt 49 = .ok (.iconst 3, 1) := by decide +kernel
theorem dX8_vertexAt_50 : decode cX8_vertexAt 50 = .ok (.if_icmp .ge 38, 3) := by decide +kernel
theorem dX8_vertexAt_53 : decode cX8_vertexAt 53 = .ok (.iload_n 2, 1) := by decide +kernel
theorem dX8_vertexAt_54 : decode cX8_vertexAt 54 = .ok (.ifCond .ne 20, 3) := by decide +kernel
theorem dX8_vertexAt_57 : decode cX8_vertexAt 57 = .ok (.iload 5, 2) := by decide +kernel
theorem dX8_vertexAt_59 : decode cX8_vertexAt 59 = .ok (.iload 4, 2) := by decide +kernel
theorem dX8_vertexAt_61 : decode cX8_vertexAt 61 = .ok (.iconst 1, 1) := by decide +kernel
theorem dX8_vertexAt_62 : decode cX8_vertexAt 62 = .ok (.if_icmp .ne 7, 3) := by decide +kernel
theorem dX8_vertexAt_65 : decode cX8_vertexAt 65 = .ok (.iconst 1, 1) := by decide +kernel
theorem dX8_vertexAt_66 : decode cX8_vertexAt 66 = .ok (.goto 4, 3) := by decide +kernel
theorem dX8_vertexAt_69 : decode cX8_vertexAt 69 = .ok (.iconst 0, 1) := by decide +kernel
theorem dX8_vertexAt_70 : decode cX8_vertexAt 70 = .ok (.iadd, 1) := by decide +kernel
theorem dX8_vertexAt_71 : decode cX8_vertexAt 71 = .ok (.goto 16, 3) := by decide +kernel
theorem dX8_vertexAt_74 : decode cX8_vertexAt 74 = .ok (.iload 5, 2) := by decide +kernel
theorem dX8_vertexAt_76 : decode cX8_vertexAt 76 = .ok (.iload 4, 2) := by decide +kernel
theorem dX8_vertexAt_78 : decode cX8_vertexAt 78 = .ok (.ifCond .ne 7, 3) := by decide +kernel
theorem dX8_vertexAt_81 : decode cX8_vertexAt 81 = .ok (.iconst 1, 1) := by decide +kernel
theorem dX8_vertexAt_82 : decode cX8_vertexAt 82 = .ok (.goto 4, 3) := by decide +kernel
theorem dX8_vertexAt_85 : decode cX8_vertexAt 85 = .ok (.iconst 2, 1) := by decide +kernel
theorem dX8_vertexAt_86 : decode cX8_vertexAt 86 = .ok (.iadd, 1) := by decide +kernel
theorem dX8_vertexAt_87 : decode cX8_vertexAt 87 = .ok (.ireturn, 1) := by decide +kernel
theorem dX8_vertexAt_88 : decode cX8_vertexAt 88 = .ok (.iload_n 2, 1) := by decide +kernel
theorem dX8_vertexAt_89 : decode cX8_vertexAt 89 = .ok (.ifCond .ne 13, 3) := by decide +kernel
theorem dX8_vertexAt_92 : decode cX8_vertexAt 92 = .ok (.iload 5, 2) := by decide +kernel
theorem dX8_vertexAt_94 : decode cX8_vertexAt 94 = .ok (.iload 4, 2) := by decide +kernel
theorem dX8_vertexAt_96 : decode cX8_vertexAt 96 = .ok (.iadd, 1) := by decide +kernel
theorem dX8_vertexAt_97 : decode cX8_vertexAt 97 = .ok (.iconst 3, 1) := by decide +kernel
theorem dX8_vertexAt_98 : decode cX8_vertexAt 98 = .ok (.isub, 1) := by decide +kernel
theorem dX8_vertexAt_99 : decode cX8_vertexAt 99 = .ok (.goto 16, 3) := by decide +kernel
theorem dX8_vertexAt_102 : decode cX8_vertexAt 102 = .ok (.aload_n 0, 1) := by decide +kernel
theorem dX8_vertexAt_103 : decode cX8_vertexAt 103 = .ok (.getfield 44, 3) := by decide +kernel
theorem dX8_vertexAt_106 : decode cX8_vertexAt 106 = .ok (.iconst 3, 1) := by decide +kernel
theorem dX8_vertexAt_107 : decode cX8_vertexAt 107 = .ok (.iload_n 3, 1) := by decide +kernel
theorem dX8_vertexAt_108 : decode cX8_vertexAt 108 = .ok (.imul, 1) := by decide +kernel
theorem dX8_vertexAt_109 : decode cX8_vertexAt 109 = .ok (.iload 4, 2) := by decide +kernel
theorem dX8_vertexAt_111 : decode cX8_vertexAt 111 = .ok (.iadd, 1) := by decide +kernel
theorem dX8_vertexAt_112 : decode cX8_vertexAt 112 = .ok (.iconst 3, 1) := by decide +kernel
theorem dX8_vertexAt_113 : decode cX8_vertexAt 113 = .ok (.isub, 1) := by decide +kernel
theorem dX8_vertexAt_114 : decode cX8_vertexAt 114 = .ok (.iaload, 1) := by decide +kernel
theorem dX8_vertexAt_115 : decode cX8_vertexAt 115 = .ok (.ireturn, 1) := by decide +kernel
set_option maxRecDepth 20000 in
theorem ggX8_link_X8_vertexAt : GoodIn wsX8_link wsX8_vertexAt := goodIn_r _ [10, 11, 12, 13, 14, 15, 16, 17, 18, 19, 20, 21, 22, 23, 24, 25, 26, 27, 28, 29, 30, 31, 32, 33, 34, 35, 36, 37, 38, 39, 40, 41, 42, 43, 44, 45, 46, 47, 48, 49] (by decide +kernel) (by decide +kernel)
set_option maxRecDepth 20000 in
theorem gX8_link_X8_vertexAt : GoodIn wsX8_link (wsV RX8 167 RX8 yX8_vertexAt wsX8_vertexAt) := goodIn_app (goodIn_of _ (by decide +kernel)) ggX8_link_X8_vertexAt
theorem dX8_link_0 : decode cX8_link 0 = .ok (.iconst 0, 1) := by decide +kernel
theorem dX8_link_1 : decode cX8_link 1 = .ok (.istore_n 1, 1) := by decide +kernel
theorem dX8_link_2 : decode cX8_link 2 = .ok (.iload_n 1, 1) := by decide +kernel
theorem dX8_link_3 : decode cX8_link 3 = .ok (.aload_n 0, 1) := by decide +kernel
theorem dX8_link_4 : decode cX8_link 4 = .ok (.getfield 161, 3) := by decide +kernel
theorem dX8_link_7 : decode cX8_link 7 = .ok (.if_icmp .ge 23, 3) := by decide +kernel
theorem dX8_link_10 : decode cX8_link 10 = .ok (.aload_n 0, 1) := by decide +kernel
theorem dX8_link_11 : decode cX8_link 11 = .ok (.getfield 50, 3) := by decide +kernel
theorem dX8_link_14 : decode cX8_link 14 = .ok (.iload_n 1, 1) := by decide +kernel
theorem dX8_link_15 : decode cX8_link 15 = .ok (.iconst (-1), 1) := by decide +kernel
theorem dX8_link_16 : decode cX8_link 16 = .ok (.iastore, 1) := by decide +kernel
theorem dX8_link_17 : decode cX8_link 17 = .ok (.aload_n 0, 1) := by decide +kernel
theorem dX8_link_18 : decode cX8_link 18 = .ok (.getfield 53, 3) := by decide +kernel
theorem dX8_link_21 : decode cX8_link 21 = .ok (.iload_n 1, 1) := by decide +kernel
theorem dX8_link_22 : decode cX8_link 22 = .ok (.iconst (-1), 1) := by decide +kernel
theorem dX8_link_23 : decode cX8_link 23 = .ok (.iastore, 1) := by decide +kernel
theorem dX8_link_24 : decode cX8_link 24 = .ok (.iinc 1 1, 3) := by decide +kernel
theorem dX8_link_27 : decode cX8_link 27 = .ok (.goto (-25), 3) := by decide +kernel
theorem dX8_link_30 : decode cX8_link 30 = .ok (.iconst 0, 1) := by decide +kernel
theorem dX8_link_31 : decode cX8_link 31 = .ok (.istore_n 1, 1) := by decide +kernel
theorem dX8_link_32 : decode cX8_link 32 = .ok (.iload_n 1, 1) := by decide +kernel
theorem dX8_link_33 : decode cX8_link 33 = .ok (.aload_n 0, 1) := by decide +kernel
theorem dX8_link_34 : decode cX8_link 34 = .ok (.getfield 164, 3) := by decide +kernel
theorem dX8_link_37 : decode cX8_link 37 = .ok (.if_icmp .ge 86, 3) := by decide +kernel
theorem dX8_link_40 : decode cX8_link 40 = .ok (.iconst 0, 1) := by decide +kernel
theorem dX8_link_41 : decode cX8_link 41 = .ok (.istore_n 2, 1) := by decide +kernel
theorem dX8_link_42 : decode cX8_link 42 = .ok (.iload_n 2, 1) := by decide +kernel
theorem dX8_link_43 : decode cX8_link 43 = .ok (.iconst 2, 1) := by decide +kernel
theorem dX8_link_44 : decode cX8_link 44 = .ok (.if_icmp .ge 73, 3) := by decide +kernel
theorem dX8_link_47 : decode cX8_link 47 = .ok (.aload_n 0, 1) := by decide +kernel
theorem dX8_link_48 : decode cX8_link 48 = .ok (.iload_n 1, 1) := by decide +kernel
theorem dX8_link_49 : decode cX8_link 49 = .ok (.iload_n 2, 1) := by decide +kernel
theorem dX8_link_50 : decode cX8_link 50 = .ok (.invokevirtual 167, 3) := by decide +kernel
theorem dX8_link_53 : decode cX8_link 53 = .ok (.istore_n 3, 1) := by decide +kernel
theorem dX8_link_54 : decode cX8_link 54 = .ok (.iconst 2, 1) := by decide +kernel
theorem dX8_link_55 : decode cX8_link 55 = .ok (.iload_n 1, 1) := by decide +kernel
theorem dX8_link_56 : decode cX8_link 56 = .ok (.imul, 1) := by decide +kernel
theorem dX8_link_57 : decode cX8_link 57 = .ok (.iload_n 2, 1) := by decide +kernel
theorem dX8_link_58 : decode cX8_link 58 = .ok (.iadd, 1) := by decide +kernel
theorem dX8_link_59 : decode cX8_link 59 = .ok (.istore 4, 2) := by decide +kernel
theorem dX8_link_61 : decode cX8_link 61 = .ok (.aload_n 0, 1) := by decide +kernel
theorem dX8_link_62 : decode cX8_link 62 = .ok (.getfield 53, 3) := by decide +kernel
theorem dX8_link_65 : decode cX8_link 65 = .ok (.iload_n 3, 1) := by decide +kernel
theorem dX8_link_66 : decode cX8_link 66 = .ok (.iaload, 1) := by decide +kernel
theorem dX8_link_67 : decode cX8_link 67 = .ok (.iconst (-1), 1) := by decide +kernel
theorem dX8_link_68 : decode cX8_link 68 = .ok (.if_icmp .ne 14, 3) := by decide +kernel
theorem dX8_link_71 : decode cX8_link 71 = .ok (.aload_n 0, 1) := by decide +kernel
theorem dX8_link_72 : decode cX8_link 72 = .ok (.getfield 50, 3) := by decide +kernel
theorem dX8_link_75 : decode cX8_link 75 = .ok (.iload_n 3, 1) := by decide +kernel
theorem dX8_link_76 : decode cX8_link 76 = .ok (.iload 4, 2) := by decide +kernel
theorem dX8_link_78 : decode cX8_link 78 = .ok (.iastore, 1) := by decide +kernel
theorem dX8_link_79 : decode cX8_link 79 = .ok (.goto 16, 3) := by decide +kernel
theorem dX8_link_82 : decode cX8_link 82 = .ok (.aload_n 0, 1) := by decide +kernel
theorem dX8_link_83 : decode cX8_link 83 = .ok (.getfield 47, 3) := by decide +kernel
theorem dX8_link_86 : decode cX8_link 86 = .ok (.aload_n 0, 1) := by decide +kernel
theorem dX8_link_87 : decode cX8_link 87 = .ok (.getfield 53, 3) := by decide +kernel
theorem dX8_link_90 : decode cX8_link 90 = .ok (.iload_n 3, 1) := by decide +kernel
theorem dX8_link_91 : decode cX8_link 91 = .ok (.iaload, 1) := by decide +kernel
theorem dX8_link_92 : decode cX8_link 92 = .ok (.iload 4, 2) := by decide +kernel
theorem dX8_link_94 : decode cX8_link 94 = .ok (.iastore, 1) := by decide +kernel
theorem dX8_link_95 : decode cX8_link 95 = .ok (.aload_n 0, 1) := by decide +kernel
theorem dX8_link_96 : decode cX8_link 96 = .ok (.getfield 47, 3) := by decide +kernel
theorem dX8_link_99 : decode cX8_link 99 = .ok (.iload 4, 2) := by decide +kernel
theorem dX8_link_101 : decode cX8_link 101 = .ok (.iconst (-1), 1) := by decide +kernel
theorem dX8_link_102 : decode cX8_link 102 = .ok (.iastore, 1) := by decide +kernel
theorem dX8_link_103 : decode cX8_link 103 = .ok (.aload_n 0, 1) := by decide +kernel
theorem dX8_link_104 : decode cX8_link 104 = .ok (.getfield 53, 3) := by decide +kernel
theorem dX8_link_107 : decode cX8_link 107 = .ok (.iload_n 3, 1) := by decide +kernel
theorem dX8_link_108 : decode cX8_link 108 = .ok (.iload 4, 2) := by decide +kernel
theorem dX8_link_110 : decode cX8_link 110 = .ok (.iastore, 1) := by decide +kernel
theorem dX8_link_111 : decode cX8_link 111 = .ok (.iinc 2 1, 3) := by decide +kernel
theorem dX8_link_114 : decode cX8_link 114 = .ok (.goto (-72), 3) := by decide +kernel
theorem dX8_link_117 : decode cX8_link 117 = .ok (.iinc 1 1, 3) := by decide +kernel
theorem dX8_link_120 : decode cX8_link 120 = .ok (.goto (-88), 3) := by decide +kernel
theorem dX8_link_123 : decode cX8_link 123 = .ok (.return_, 1) := by decide +kernel
set_option maxRecDepth 20000 in
theorem ggX8_build_X8_rows : GoodIn wsX8_build wsX8_rows := goodIn_r _ [18, 5, 19, 20, 21, 22, 23, 24, 17, 25, 26, 27, 28, 29, 30, 31, 32, 33, 34, 3, 35, 36, 37, 38, 2, 8, 39, 40, 41, 42, 43, 44, 45, 46, 47, 48, 49, 50, 51, 52, 53, 54, 114, 115, 116, 117, 118, 119, 120, 121, 122, 123, 124, 125, 126, 127, 128, 129, 130, 131, 132, 133, 134, 135, 136, 137, 138, 139, 140, 141, 142, 143, 144, 145, 146, 147, 148, 149, 150] (by decide +kernel) (by decide +kernel)
set_option maxRecDepth 20000 in
theorem gX8_build_X8_rows : GoodIn wsX8_build (wsV RX8 170 RX8 yX8_rows wsX8_rows) := goodIn_app (goodIn_of _ (by decide +kernel)) ggX8_build_X8_rows
set_option maxRecDepth 20000 in
theorem ggX8_build_X8_steps : GoodIn wsX8_build wsX8_steps := goodIn_r _ [58, 5, 59, 19, 60, 61, 62, 17, 63, 47, 48, 49, 50, 20, 43, 44, 45, 46, 22, 23, 24, 25, 30, 31, 32, 33, 34, 3, 35, 36, 37, 38, 2, 8, 64, 65, 66, 67, 68, 69, 70, 71, 72, 73, 74, 75, 76, 39, 40, 41, 42, 77, 78, 79, 80, 81, 82, 83, 84, 85, 86, 87, 114, 115, 116, 117, 118, 119, 120, 121, 122, 123, 124, 125, 126, 127, 128, 129, 130, 131, 132, 133, 134, 135, 136, 137, 138, 139, 140, 141, 142, 143, 144, 145, 146, 147, 148, 149, 150] (by decide +kernel) (by decide +kernel)
set_option maxRecDepth 20000 in
theorem gX8_build_X8_steps : GoodIn wsX8_build (wsV RX8 173 RX8 yX8_steps wsX8_steps) := goodIn_app (goodIn_of _ (by decide +kernel)) ggX8_build_X8_steps
set_option maxRecDepth 20000 in
theorem ggX8_build_X8_k : GoodIn wsX8_build wsX8_k := goodIn_r _ [63, 5, 59, 47, 48, 49, 17, 50, 20, 43, 44, 45, 46, 22, 23, 24, 25, 19, 114, 115, 116, 117, 118, 119, 120, 121, 122, 123, 124, 125, 126, 127, 128, 129, 130, 131, 132, 133, 134, 135, 136, 137, 138, 139, 140, 141, 142, 143, 144, 145, 146, 147, 148, 149, 150] (by decide +kernel) (by decide +kernel)
set_option maxRecDepth 20000 in
theorem gX8_build_X8_k : GoodIn wsX8_build (wsV RX8 136 RX8 yX8_k wsX8_k) := goodIn_app (goodIn_of _ (by decide +kernel)) ggX8_build_X8_k
set_option maxRecDepth 20000 in
theorem ggX8_build_X8_split : GoodIn wsX8_build wsX8_split := goodIn_r _ [91, 34, 7, 92, 93, 94, 17, 95, 96, 4, 114, 115, 116, 117, 118, 119, 120, 121, 122, 123, 124, 125, 126, 127, 128, 129, 130, 131, 132, 133, 134, 135, 136, 137, 138, 139, 140, 141, 142, 143, 144, 145, 146, 147, 148, 149, 150] (by decide +kernel) (by decide +kernel)
set_option maxRecDepth 20000 in
theorem gX8_build_X8_split : GoodIn wsX8_build (wsV RX8 179 RX8 yX8_split wsX8_split) := goodIn_app (goodIn_of _ (by decide +kernel)) ggX8_build_X8_split
set_option maxRecDepth 20000 in
theorem ggX8_build_X8_link : GoodIn wsX8_build wsX8_link := goodIn_r _ [100, 9, 101, 102, 10, 103, 104, 105, 106, 17, 107, 7, 96, 114, 115, 116, 117, 118, 119, 120, 121, 122, 123, 124, 125, 126, 127, 128, 129, 130, 131, 132, 133, 134, 135, 136, 137, 138, 139, 140, 141, 142, 143, 144, 145, 146, 147, 148, 149, 150] (by decide +kernel) (by decide +kernel)
set_option maxRecDepth 20000 in
theorem gX8_build_X8_link : GoodIn wsX8_build (wsV RX8 188 RX8 yX8_link wsX8_link) := goodIn_app (goodIn_of _ (by decide +kernel)) ggX8_build_X8_link
set_option maxRecDepth 20000 in
theorem ggX8_build_X8_unbuild : GoodIn wsX8_build wsX8_unbuild := goodIn_r _ [111, 13, 112, 113, 114, 115, 116, 117, 118, 119, 120, 121, 122, 123, 124, 125, 126, 127, 128, 129, 130, 131, 132, 133, 134, 135, 136, 137, 138, 139, 140, 141, 142, 143, 144, 145, 146, 147, 148, 149, 150] (by decide +kernel) (by decide +kernel)
set_option maxRecDepth 20000 in
theorem gX8_build_X8_unbuild : GoodIn wsX8_build (wsV RX8 99 RX8 yX8_unbuild wsX8_unbuild) := goodIn_app (goodIn_of _ (by decide +kernel)) ggX8_build_X8_unbuild
theorem dX8_build_0 : decode cX8_build 0 = .ok (.aload_n 0, 1) := by decide +kernel
theorem dX8_build_1 : decode cX8_build 1 = .ok (.iconst 0, 1) := by decide +kernel
theorem dX8_build_2 : decode cX8_build 2 = .ok (.putfield 79, 3) := by decide +kernel
theorem dX8_build_5 : decode cX8_build 5 = .ok (.aload_n 0, 1) := by decide +kernel
theorem dX8_build_6 : decode cX8_build 6 = .ok (.iconst 0, 1) := by decide +kernel
theorem dX8_build_7 : decode cX8_build 7 = .ok (.putfield 116, 3) := by decide +kernel
theorem dX8_build_10 : decode cX8_build 10 = .ok (.aload_n 0, 1) := by decide +kernel
theorem dX8_build_11 : decode cX8_build 11 = .ok (.iconst 0, 1) := by decide +kernel
theorem dX8_build_12 : decode cX8_build 12 = .ok (.putfield 113, 3) := by decide +kernel
theorem dX8_build_15 : decode cX8_build 15 = .ok (.aload_n 0, 1) := by decide +kernel
theorem dX8_build_16 : decode cX8_build 16 = .ok (.iconst 0, 1) := by decide +kernel
theorem dX8_build_17 : decode cX8_build 17 = .ok (.putfield 152, 3) := by decide +kernel
theorem dX8_build_20 : decode cX8_build 20 = .ok (.aload_n 0, 1) := by decide +kernel
theorem dX8_build_21 : decode cX8_build 21 = .ok (.invokevirtual 170, 3) := by decide +kernel
theorem dX8_build_24 : decode cX8_build 24 = .ok (.aload_n 0, 1) := by decide +kernel
theorem dX8_build_25 : decode cX8_build 25 = .ok (.invokevirtual 173, 3) := by decide +kernel
theorem dX8_build_28 : decode cX8_build 28 = .ok (.aload_n 0, 1) := by decide +kernel
theorem dX8_build_29 : decode cX8_build 29 = .ok (.aload_n 0, 1) := by decide +kernel
theorem dX8_build_30 : decode cX8_build 30 = .ok (.aload_n 0, 1) := by decide +kernel
theorem dX8_build_31 : decode cX8_build 31 = .ok (.getfield 16, 3) := by decide +kernel
theorem dX8_build_34 : decode cX8_build 34 = .ok (.iconst 0, 1) := by decide +kernel
theorem dX8_build_35 : decode cX8_build 35 = .ok (.invokevirtual 136, 3) := by decide +kernel
theorem dX8_build_38 : decode cX8_build 38 = .ok (.putfield 176, 3) := by decide +kernel
theorem dX8_build_41 : decode cX8_build 41 = .ok (.aload_n 0, 1) := by decide +kernel
theorem dX8_build_42 : decode cX8_build 42 = .ok (.aload_n 0, 1) := by decide +kernel
theorem dX8_build_43 : decode cX8_build 43 = .ok (.getfield 176, 3) := by decide +kernel
theorem dX8_build_46 : decode cX8_build 46 = .ok (.putfield 158, 3) := by decide +kernel
theorem dX8_build_49 : decode cX8_build 49 = .ok (.iconst 0, 1) := by decide +kernel
theorem dX8_build_50 : decode cX8_build 50 = .ok (.istore_n 1, 1) := by decide +kernel
theorem dX8_build_51 : decode cX8_build 51 = .ok (.iload_n 1, 1) := by decide +kernel
theorem dX8_build_52 : decode cX8_build 52 = .ok (.aload_n 0, 1) := by decide +kernel
theorem dX8_build_53 : decode cX8_build 53 = .ok (.getfield 116, 3) := by decide +kernel
theorem dX8_build_56 : decode cX8_build 56 = .ok (.if_icmp .ge 34, 3) := by decide +kernel
theorem dX8_build_59 : decode cX8_build 59 = .ok (.aload_n 0, 1) := by decide +kernel
theorem dX8_build_60 : decode cX8_build 60 = .ok (.aload_n 0, 1) := by decide +kernel
theorem dX8_build_61 : decode cX8_build 61 = .ok (.getfield 38, 3) := by decide +kernel
theorem dX8_build_64 : decode cX8_build 64 = .ok (.iload_n 1, 1) := by decide +kernel
theorem dX8_build_65 : decode cX8_build 65 = .ok (.iaload, 1) := by decide +kernel
theorem dX8_build_66 : decode cX8_build 66 = .ok (.aload_n 0, 1) := by decide +kernel
theorem dX8_build_67 : decode cX8_build 67 = .ok (.getfield 38, 3) := by decide +kernel
theorem dX8_build_70 : decode cX8_build 70 = .ok (.iload_n 1, 1) := by decide +kernel
theorem dX8_build_71 : decode cX8_build 71 = .ok (.iconst 1, 1) := by decide +kernel
theorem dX8_build_72 : decode cX8_build 72 = .ok (.iadd, 1) := by decide +kernel
theorem dX8_build_73 : decode cX8_build 73 = .ok (.iaload, 1) := by decide +kernel
theorem dX8_build_74 : decode cX8_build 74 = .ok (.aload_n 0, 1) := by decide +kernel
theorem dX8_build_75 : decode cX8_build 75 = .ok (.getfield 38, 3) := by decide +kernel
theorem dX8_build_78 : decode cX8_build 78 = .ok (.iload_n 1, 1) := by decide +kernel
theorem dX8_build_79 : decode cX8_build 79 = .ok (.iaload, 1) := by decide +kernel
theorem dX8_build_80 : decode cX8_build 80 = .ok (.isub, 1) := by decide +kernel
theorem dX8_build_81 : decode cX8_build 81 = .ok (.invokevirtual 179, 3) := by decide +kernel
theorem dX8_build_84 : decode cX8_build 84 = .ok (.iinc 1 1, 3) := by decide +kernel
theorem dX8_build_87 : decode cX8_build 87 = .ok (.goto (-36), 3) := by decide +kernel
theorem dX8_build_90 : decode cX8_build 90 = .ok (.aload_n 0, 1) := by decide +kernel
theorem dX8_build_91 : decode cX8_build 91 = .ok (.iconst 2, 1) := by decide +kernel
theorem dX8_build_92 : decode cX8_build 92 = .ok (.aload_n 0, 1) := by decide +kernel
theorem dX8_build_93 : decode cX8_build 93 = .ok (.getfield 158, 3) := by decide +kernel
theorem dX8_build_96 : decode cX8_build 96 = .ok (.imul, 1) := by decide +kernel
theorem dX8_build_97 : decode cX8_build 97 = .ok (.iconst 3, 1) := by decide +kernel
theorem dX8_build_98 : decode cX8_build 98 = .ok (.aload_n 0, 1) := by decide +kernel
theorem dX8_build_99 : decode cX8_build 99 = .ok (.getfield 152, 3) := by decide +kernel
theorem dX8_build_102 : decode cX8_build 102 = .ok (.imul, 1) := by decide +kernel
theorem dX8_build_103 : decode cX8_build 103 = .ok (.iadd, 1) := by decide +kernel
theorem dX8_build_104 : decode cX8_build 104 = .ok (.putfield 161, 3) := by decide +kernel
theorem dX8_build_107 : decode cX8_build 107 = .ok (.aload_n 0, 1) := by decide +kernel
theorem dX8_build_108 : decode cX8_build 108 = .ok (.aload_n 0, 1) := by decide +kernel
theorem dX8_build_109 : decode cX8_build 109 = .ok (.getfield 158, 3) := by decide +kernel
theorem dX8_build_112 : decode cX8_build 112 = .ok (.bipush 6, 2) := by decide +kernel
theorem dX8_build_114 : decode cX8_build 114 = .ok (.aload_n 0, 1) := by decide +kernel
theorem dX8_build_115 : decode cX8_build 115 = .ok (.getfield 152, 3) := by decide +kernel
theorem dX8_build_118 : decode cX8_build 118 = .ok (.imul, 1) := by decide +kernel
theorem dX8_build_119 : decode cX8_build 119 = .ok (.iadd, 1) := by decide +kernel
theorem dX8_build_120 : decode cX8_build 120 = .ok (.putfield 164, 3) := by decide +kernel
theorem dX8_build_123 : decode cX8_build 123 = .ok (.aload_n 0, 1) := by decide +kernel
theorem dX8_build_124 : decode cX8_build 124 = .ok (.aload_n 0, 1) := by decide +kernel
theorem dX8_build_125 : decode cX8_build 125 = .ok (.getfield 158, 3) := by decide +kernel
theorem dX8_build_128 : decode cX8_build 128 = .ok (.iconst 2, 1) := by decide +kernel
theorem dX8_build_129 : decode cX8_build 129 = .ok (.aload_n 0, 1) := by decide +kernel
theorem dX8_build_130 : decode cX8_build 130 = .ok (.getfield 152, 3) := by decide +kernel
theorem dX8_build_133 : decode cX8_build 133 = .ok (.imul, 1) := by decide +kernel
theorem dX8_build_134 : decode cX8_build 134 = .ok (.iadd, 1) := by decide +kernel
theorem dX8_build_135 : decode cX8_build 135 = .ok (.putfield 182, 3) := by decide +kernel
theorem dX8_build_138 : decode cX8_build 138 = .ok (.aload_n 0, 1) := by decide +kernel
theorem dX8_build_139 : decode cX8_build 139 = .ok (.bipush 12, 2) := by decide +kernel
theorem dX8_build_141 : decode cX8_build 141 = .ok (.aload_n 0, 1) := by decide +kernel
theorem dX8_build_142 : decode cX8_build 142 = .ok (.getfield 164, 3) := by decide +kernel
theorem dX8_build_145 : decode cX8_build 145 = .ok (.imul, 1) := by decide +kernel
theorem dX8_build_146 : decode cX8_build 146 = .ok (.aload_n 0, 1) := by decide +kernel
theorem dX8_build_147 : decode cX8_build 147 = .ok (.getfield 182, 3) := by decide +kernel
theorem dX8_build_150 : decode cX8_build 150 = .ok (.iadd, 1) := by decide +kernel
theorem dX8_build_151 : decode cX8_build 151 = .ok (.putfield 185, 3) := by decide +kernel
theorem dX8_build_154 : decode cX8_build 154 = .ok (.aload_n 0, 1) := by decide +kernel
theorem dX8_build_155 : decode cX8_build 155 = .ok (.invokevirtual 188, 3) := by decide +kernel
theorem dX8_build_158 : decode cX8_build 158 = .ok (.aload_n 0, 1) := by decide +kernel
theorem dX8_build_159 : decode cX8_build 159 = .ok (.invokevirtual 99, 3) := by decide +kernel
theorem dX8_build_162 : decode cX8_build 162 = .ok (.aload_n 0, 1) := by decide +kernel
theorem dX8_build_163 : decode cX8_build 163 = .ok (.iconst 1, 1) := by decide +kernel
theorem dX8_build_164 : decode cX8_build 164 = .ok (.putfield 82, 3) := by decide +kernel
theorem dX8_build_167 : decode cX8_build 167 = .ok (.aload_n 0, 1) := by decide +kernel
theorem dX8_build_168 : decode cX8_build 168 = .ok (.getfield 185, 3) := by decide +kernel
theorem dX8_build_171 : decode cX8_build 171 = .ok (.ireturn, 1) := by decide +kernel
theorem dX8_count_0 : decode cX8_count 0 = .ok (.aload_n 0, 1) := by decide +kernel
theorem dX8_count_1 : decode cX8_count 1 = .ok (.iconst 0, 1) := by decide +kernel
theorem dX8_count_2 : decode cX8_count 2 = .ok (.putfield 79, 3) := by decide +kernel
theorem dX8_count_5 : decode cX8_count 5 = .ok (.aload_n 0, 1) := by decide +kernel
theorem dX8_count_6 : decode cX8_count 6 = .ok (.getfield 82, 3) := by decide +kernel
theorem dX8_count_9 : decode cX8_count 9 = .ok (.ifCond .ne 5, 3) := by decide +kernel
theorem dX8_count_12 : decode cX8_count 12 = .ok (.iconst (-1), 1) := by decide +kernel
theorem dX8_count_13 : decode cX8_count 13 = .ok (.ireturn, 1) := by decide +kernel
theorem dX8_count_14 : decode cX8_count 14 = .ok (.iload_n 1, 1) := by decide +kernel
theorem dX8_count_15 : decode cX8_count 15 = .ok (.tableswitch 85 0 7 #[45, 50, 55, 60, 65, 70, 75, 80], 45) := by decide +kernel
theorem dX8_count_60 : decode cX8_count 60 = .ok (.aload_n 0, 1) := by decide +kernel
theorem dX8_count_61 : decode cX8_count 61 = .ok (.getfield 176, 3) := by decide +kernel
theorem dX8_count_64 : decode cX8_count 64 = .ok (.ireturn, 1) := by decide +kernel
theorem dX8_count_65 : decode cX8_count 65 = .ok (.aload_n 0, 1) := by decide +kernel
theorem dX8_count_66 : decode cX8_count 66 = .ok (.getfield 116, 3) := by decide +kernel
theorem dX8_count_69 : decode cX8_count 69 = .ok (.ireturn, 1) := by decide +kernel
theorem dX8_count_70 : decode cX8_count 70 = .ok (.aload_n 0, 1) := by decide +kernel
theorem dX8_count_71 : decode cX8_count 71 = .ok (.getfield 158, 3) := by decide +kernel
theorem dX8_count_74 : decode cX8_count 74 = .ok (.ireturn, 1) := by decide +kernel
theorem dX8_count_75 : decode cX8_count 75 = .ok (.aload_n 0, 1) := by decide +kernel
theorem dX8_count_76 : decode cX8_count 76 = .ok (.getfield 152, 3) := by decide +kernel
theorem dX8_count_79 : decode cX8_count 79 = .ok (.ireturn, 1) := by decide +kernel
theorem dX8_count_80 : decode cX8_count 80 = .ok (.aload_n 0, 1) := by decide +kernel
theorem dX8_count_81 : decode cX8_count 81 = .ok (.getfield 161, 3) := by decide +kernel
theorem dX8_count_84 : decode cX8_count 84 = .ok (.ireturn, 1) := by decide +kernel
theorem dX8_count_85 : decode cX8_count 85 = .ok (.aload_n 0, 1) := by decide +kernel
theorem dX8_count_86 : decode cX8_count 86 = .ok (.getfield 164, 3) := by decide +kernel
theorem dX8_count_89 : decode cX8_count 89 = .ok (.ireturn, 1) := by decide +kernel
theorem dX8_count_90 : decode cX8_count 90 = .ok (.aload_n 0, 1) := by decide +kernel
theorem dX8_count_91 : decode cX8_count 91 = .ok (.getfield 182, 3) := by decide +kernel
theorem dX8_count_94 : decode cX8_count 94 = .ok (.ireturn, 1) := by decide +kernel
theorem dX8_count_95 : decode cX8_count 95 = .ok (.aload_n 0, 1) := by decide +kernel
theorem dX8_count_96 : decode cX8_count 96 = .ok (.getfield 185, 3) := by decide +kernel
theorem dX8_count_99 : decode cX8_count 99 = .ok (.ireturn, 1) := by decide +kernel
theorem dX8_count_100 : decode cX8_count 100 = .ok (.iconst (-1), 1) := by decide +kernel
theorem dX8_count_101 : decode cX8_count 101 = .ok (.ireturn, 1) := by decide +kernel
set_option maxRecDepth 20000 in
theorem ggX8_literal_X8_in : GoodIn wsX8_literal wsX8_in := goodIn_r _ [9] (by decide +kernel) (by decide +kernel)
set_option maxRecDepth 20000 in
theorem gX8_literal_X8_in : GoodIn wsX8_literal (va_wsS RX8 92 yX8_in wsX8_in) := goodIn_app (goodIn_of _ (by decide +kernel)) ggX8_literal_X8_in
theorem dX8_literal_0 : decode cX8_literal 0 = .ok (.aload_n 0, 1) := by decide +kernel
theorem dX8_literal_1 : decode cX8_literal 1 = .ok (.iconst 0, 1) := by decide +kernel
theorem dX8_literal_2 : decode cX8_literal 2 = .ok (.putfield 79, 3) := by decide +kernel
theorem dX8_literal_5 : decode cX8_literal 5 = .ok (.aload_n 0, 1) := by decide +kernel
theorem dX8_literal_6 : decode cX8_literal 6 = .ok (.getfield 82, 3) := by decide +kernel
theorem dX8_literal_9 : decode cX8_literal 9 = .ok (.ifCond .eq 42, 3) := by decide +kernel
theorem dX8_literal_12 : decode cX8_literal 12 = .ok (.iload_n 1, 1) := by decide +kernel
theorem dX8_literal_13 : decode cX8_literal 13 = .ok (.iconst 0, 1) := by decide +kernel
theorem dX8_literal_14 : decode cX8_literal 14 = .ok (.aload_n 0, 1) := by decide +kernel
theorem dX8_literal_15 : decode cX8_literal 15 = .ok (.getfield 116, 3) := by decide +kernel
theorem dX8_literal_18 : decode cX8_literal 18 = .ok (.iconst 1, 1) := by decide +kernel
theorem dX8_literal_19 : decode cX8_literal 19 = .ok (.isub, 1) := by decide +kernel
theorem dX8_literal_20 : decode cX8_literal 20 = .ok (.invokestatic 92, 3) := by decide +kernel
theorem dX8_literal_23 : decode cX8_literal 23 = .ok (.ifCond .eq 28, 3) := by decide +kernel
theorem dX8_literal_26 : decode cX8_literal 26 = .ok (.iload_n 2, 1) := by decide +kernel
theorem dX8_literal_27 : decode cX8_literal 27 = .ok (.iconst 0, 1) := by decide +kernel
theorem dX8_literal_28 : decode cX8_literal 28 = .ok (.aload_n 0, 1) := by decide +kernel
theorem dX8_literal_29 : decode cX8_literal 29 = .ok (.getfield 38, 3) := by decide +kernel
theorem dX8_literal_32 : decode cX8_literal 32 = .ok (.iload_n 1, 1) := by decide +kernel
theorem dX8_literal_33 : decode cX8_literal 33 = .ok (.iconst 1, 1) := by decide +kernel
theorem dX8_literal_34 : decode cX8_literal 34 = .ok (.iadd, 1) := by decide +kernel
theorem dX8_literal_35 : decode cX8_literal 35 = .ok (.iaload, 1) := by decide +kernel
theorem dX8_literal_36 : decode cX8_literal 36 = .ok (.aload_n 0, 1) := by decide +kernel
theorem dX8_literal_37 : decode cX8_literal 37 = .ok (.getfield 38, 3) := by decide +kernel
theorem dX8_literal_40 : decode cX8_literal 40 = .ok (.iload_n 1, 1) := by decide +kernel
theorem dX8_literal_41 : decode cX8_literal 41 = .ok (.iaload, 1) := by decide +kernel
theorem dX8_literal_42 : decode cX8_literal 42 = .ok (.isub, 1) := by decide +kernel
theorem dX8_literal_43 : decode cX8_literal 43 = .ok (.iconst 1, 1) := by decide +kernel
theorem dX8_literal_44 : decode cX8_literal 44 = .ok (.isub, 1) := by decide +kernel
theorem dX8_literal_45 : decode cX8_literal 45 = .ok (.invokestatic 92, 3) := by decide +kernel
theorem dX8_literal_48 : decode cX8_literal 48 = .ok (.ifCond .ne 5, 3) := by decide +kernel
theorem dX8_literal_51 : decode cX8_literal 51 = .ok (.iconst (-1), 1) := by decide +kernel
theorem dX8_literal_52 : decode cX8_literal 52 = .ok (.ireturn, 1) := by decide +kernel
theorem dX8_literal_53 : decode cX8_literal 53 = .ok (.aload_n 0, 1) := by decide +kernel
theorem dX8_literal_54 : decode cX8_literal 54 = .ok (.getfield 41, 3) := by decide +kernel
theorem dX8_literal_57 : decode cX8_literal 57 = .ok (.aload_n 0, 1) := by decide +kernel
theorem dX8_literal_58 : decode cX8_literal 58 = .ok (.getfield 38, 3) := by decide +kernel
theorem dX8_literal_61 : decode cX8_literal 61 = .ok (.iload_n 1, 1) := by decide +kernel
theorem dX8_literal_62 : decode cX8_literal 62 = .ok (.iaload, 1) := by decide +kernel
theorem dX8_literal_63 : decode cX8_literal 63 = .ok (.iload_n 2, 1) := by decide +kernel
theorem dX8_literal_64 : decode cX8_literal 64 = .ok (.iadd, 1) := by decide +kernel
theorem dX8_literal_65 : decode cX8_literal 65 = .ok (.iaload, 1) := by decide +kernel
theorem dX8_literal_66 : decode cX8_literal 66 = .ok (.ireturn, 1) := by decide +kernel
set_option maxRecDepth 20000 in
theorem ggX8_three_X8_in : GoodIn wsX8_three wsX8_in := goodIn_r _ [8] (by decide +kernel) (by decide +kernel)
set_option maxRecDepth 20000 in
theorem gX8_three_X8_in : GoodIn wsX8_three (va_wsS RX8 92 yX8_in wsX8_in) := goodIn_app (goodIn_of _ (by decide +kernel)) ggX8_three_X8_in
theorem dX8_three_0 : decode cX8_three 0 = .ok (.aload_n 0, 1) := by decide +kernel
theorem dX8_three_1 : decode cX8_three 1 = .ok (.iconst 0, 1) := by decide +kernel
theorem dX8_three_2 : decode cX8_three 2 = .ok (.putfield 79, 3) := by decide +kernel
theorem dX8_three_5 : decode cX8_three 5 = .ok (.aload_n 0, 1) := by decide +kernel
theorem dX8_three_6 : decode cX8_three 6 = .ok (.getfield 82, 3) := by decide +kernel
theorem dX8_three_9 : decode cX8_three 9 = .ok (.ifCond .eq 39, 3) := by decide +kernel
theorem dX8_three_12 : decode cX8_three 12 = .ok (.iload_n 1, 1) := by decide +kernel
theorem dX8_three_13 : decode cX8_three 13 = .ok (.iconst 0, 1) := by decide +kernel
theorem dX8_three_14 : decode cX8_three 14 = .ok (.aload_n 0, 1) := by decide +kernel
theorem dX8_three_15 : decode cX8_three 15 = .ok (.getfield 152, 3) := by decide +kernel
theorem dX8_three_18 : decode cX8_three 18 = .ok (.iconst 1, 1) := by decide +kernel
theorem dX8_three_19 : decode cX8_three 19 = .ok (.isub, 1) := by decide +kernel
theorem dX8_three_20 : decode cX8_three 20 = .ok (.invokestatic 92, 3) := by decide +kernel
theorem dX8_three_23 : decode cX8_three 23 = .ok (.ifCond .eq 25, 3) := by decide +kernel
theorem dX8_three_26 : decode cX8_three 26 = .ok (.iload_n 2, 1) := by decide +kernel
theorem dX8_three_27 : decode cX8_three 27 = .ok (.iconst 0, 1) := by decide +kernel
theorem dX8_three_28 : decode cX8_three 28 = .ok (.iconst 2, 1) := by decide +kernel
theorem dX8_three_29 : decode cX8_three 29 = .ok (.invokestatic 92, 3) := by decide +kernel
theorem dX8_three_32 : decode cX8_three 32 = .ok (.ifCond .eq 16, 3) := by decide +kernel
theorem dX8_three_35 : decode cX8_three 35 = .ok (.aload_n 0, 1) := by decide +kernel
theorem dX8_three_36 : decode cX8_three 36 = .ok (.getfield 44, 3) := by decide +kernel
theorem dX8_three_39 : decode cX8_three 39 = .ok (.iconst 3, 1) := by decide +kernel
theorem dX8_three_40 : decode cX8_three 40 = .ok (.iload_n 1, 1) := by decide +kernel
theorem dX8_three_41 : decode cX8_three 41 = .ok (.imul, 1) := by decide +kernel
theorem dX8_three_42 : decode cX8_three 42 = .ok (.iload_n 2, 1) := by decide +kernel
theorem dX8_three_43 : decode cX8_three 43 = .ok (.iadd, 1) := by decide +kernel
theorem dX8_three_44 : decode cX8_three 44 = .ok (.iaload, 1) := by decide +kernel
theorem dX8_three_45 : decode cX8_three 45 = .ok (.goto 4, 3) := by decide +kernel
theorem dX8_three_48 : decode cX8_three 48 = .ok (.iconst (-1), 1) := by decide +kernel
theorem dX8_three_49 : decode cX8_three 49 = .ok (.ireturn, 1) := by decide +kernel
set_option maxRecDepth 20000 in
theorem ggX8_end_X8_in : GoodIn wsX8_end wsX8_in := goodIn_r _ [7] (by decide +kernel) (by decide +kernel)
set_option maxRecDepth 20000 in
theorem gX8_end_X8_in : GoodIn wsX8_end (va_wsS RX8 92 yX8_in wsX8_in) := goodIn_app (goodIn_of _ (by decide +kernel)) ggX8_end_X8_in
set_option maxRecDepth 20000 in
theorem ggX8_end_X8_vertexAt : GoodIn wsX8_end wsX8_vertexAt := goodIn_r _ [11, 12, 13, 14, 15, 16, 17, 18, 19, 20, 21, 22, 23, 24, 25, 26, 27, 28, 29, 30, 31, 32, 33, 34, 35, 36, 37, 38, 39, 40, 41, 42, 43, 44, 45, 46, 47, 48, 49, 50] (by decide +kernel) (by decide +kernel)
set_option maxRecDepth 20000 in
theorem gX8_end_X8_vertexAt : GoodIn wsX8_end (wsV RX8 167 RX8 yX8_vertexAt wsX8_vertexAt) := goodIn_app (goodIn_of _ (by decide +kernel)) ggX8_end_X8_vertexAt
theorem dX8_end_0 : decode cX8_end 0 = .ok (.aload_n 0, 1) := by decide +kernel
theorem dX8_end_1 : decode cX8_end 1 = .ok (.iconst 0, 1) := by decide +kernel
theorem dX8_end_2 : decode cX8_end 2 = .ok (.putfield 79, 3) := by decide +kernel
theorem dX8_end_5 : decode cX8_end 5 = .ok (.aload_n 0, 1) := by decide +kernel
theorem dX8_end_6 : decode cX8_end 6 = .ok (.getfield 82, 3) := by decide +kernel
theorem dX8_end_9 : decode cX8_end 9 = .ok (.ifCond .eq 35, 3) := by decide +kernel
theorem dX8_end_12 : decode cX8_end 12 = .ok (.iload_n 1, 1) := by decide +kernel
theorem dX8_end_13 : decode cX8_end 13 = .ok (.iconst 0, 1) := by decide +kernel
theorem dX8_end_14 : decode cX8_end 14 = .ok (.aload_n 0, 1) := by decide +kernel
theorem dX8_end_15 : decode cX8_end 15 = .ok (.getfield 164, 3) := by decide +kernel
theorem dX8_end_18 : decode cX8_end 18 = .ok (.iconst 1, 1) := by decide +kernel
theorem dX8_end_19 : decode cX8_end 19 = .ok (.isub, 1) := by decide +kernel
theorem dX8_end_20 : decode cX8_end 20 = .ok (.invokestatic 92, 3) := by decide +kernel
theorem dX8_end_23 : decode cX8_end 23 = .ok (.ifCond .eq 21, 3) := by decide +kernel
theorem dX8_end_26 : decode cX8_end 26 = .ok (.iload_n 2, 1) := by decide +kernel
theorem dX8_end_27 : decode cX8_end 27 = .ok (.iconst 0, 1) := by decide +kernel
theorem dX8_end_28 : decode cX8_end 28 = .ok (.iconst 1, 1) := by decide +kernel
theorem dX8_end_29 : decode cX8_end 29 = .ok (.invokestatic 92, 3) := by decide +kernel
theorem dX8_end_32 : decode cX8_end 32 = .ok (.ifCond .eq 12, 3) := by decide +kernel
theorem dX8_end_35 : decode cX8_end 35 = .ok (.aload_n 0, 1) := by decide +kernel
theorem dX8_end_36 : decode cX8_end 36 = .ok (.iload_n 1, 1) := by decide +kernel
theorem dX8_end_37 : decode cX8_end 37 = .ok (.iload_n 2, 1) := by decide +kernel
theorem dX8_end_38 : decode cX8_end 38 = .ok (.invokevirtual 167, 3) := by decide +kernel
theorem dX8_end_41 : decode cX8_end 41 = .ok (.goto 4, 3) := by decide +kernel
theorem dX8_end_44 : decode cX8_end 44 = .ok (.iconst (-1), 1) := by decide +kernel
theorem dX8_end_45 : decode cX8_end 45 = .ok (.ireturn, 1) := by decide +kernel
set_option maxRecDepth 20000 in
theorem ggX8_isSelectorRoad_X8_vertexAt : GoodIn wsX8_isSelectorRoad wsX8_vertexAt := goodIn_r _ [7, 8, 9, 10, 11, 12, 13, 14, 15, 16, 17, 18, 19, 20, 21, 22, 23, 24, 25, 26, 27, 28, 29, 30, 31, 32, 33, 34, 35, 36, 37, 38, 39, 40, 41, 42, 43, 44, 45, 46] (by decide +kernel) (by decide +kernel)
set_option maxRecDepth 20000 in
theorem gX8_isSelectorRoad_X8_vertexAt : GoodIn wsX8_isSelectorRoad (wsV RX8 167 RX8 yX8_vertexAt wsX8_vertexAt) := goodIn_app (goodIn_of _ (by decide +kernel)) ggX8_isSelectorRoad_X8_vertexAt
theorem dX8_isSelectorRoad_0 : decode cX8_isSelectorRoad 0 = .ok (.iload_n 1, 1) := by decide +kernel
theorem dX8_isSelectorRoad_1 : decode cX8_isSelectorRoad 1 = .ok (.bipush 6, 2) := by decide +kernel
theorem dX8_isSelectorRoad_3 : decode cX8_isSelectorRoad 3 = .ok (.idiv, 1) := by decide +kernel
theorem dX8_isSelectorRoad_4 : decode cX8_isSelectorRoad 4 = .ok (.istore_n 2, 1) := by decide +kernel
theorem dX8_isSelectorRoad_5 : decode cX8_isSelectorRoad 5 = .ok (.aload_n 0, 1) := by decide +kernel
theorem dX8_isSelectorRoad_6 : decode cX8_isSelectorRoad 6 = .ok (.iload_n 2, 1) := by decide +kernel
theorem dX8_isSelectorRoad_7 : decode cX8_isSelectorRoad 7 = .ok (.iconst 2, 1) := by decide +kernel
theorem dX8_isSelectorRoad_8 : decode cX8_isSelectorRoad 8 = .ok (.idiv, 1) := by decide +kernel
theorem dX8_isSelectorRoad_9 : decode cX8_isSelectorRoad 9 = .ok (.iload_n 2, 1) := by decide +kernel
theorem dX8_isSelectorRoad_10 : decode cX8_isSelectorRoad 10 = .ok (.iconst 2, 1) := by decide +kernel
theorem dX8_isSelectorRoad_11 : decode cX8_isSelectorRoad 11 = .ok (.irem, 1) := by decide +kernel
theorem dX8_isSelectorRoad_12 : decode cX8_isSelectorRoad 12 = .ok (.invokevirtual 167, 3) := by decide +kernel
theorem dX8_isSelectorRoad_15 : decode cX8_isSelectorRoad 15 = .ok (.istore_n 3, 1) := by decide +kernel
theorem dX8_isSelectorRoad_16 : decode cX8_isSelectorRoad 16 = .ok (.iload_n 1, 1) := by decide +kernel
theorem dX8_isSelectorRoad_17 : decode cX8_isSelectorRoad 17 = .ok (.bipush 6, 2) := by decide +kernel
theorem dX8_isSelectorRoad_19 : decode cX8_isSelectorRoad 19 = .ok (.irem, 1) := by decide +kernel
theorem dX8_isSelectorRoad_20 : decode cX8_isSelectorRoad 20 = .ok (.ifCond .ne 13, 3) := by decide +kernel
theorem dX8_isSelectorRoad_23 : decode cX8_isSelectorRoad 23 = .ok (.aload_n 0, 1) := by decide +kernel
theorem dX8_isSelectorRoad_24 : decode cX8_isSelectorRoad 24 = .ok (.getfield 50, 3) := by decide +kernel
theorem dX8_isSelectorRoad_27 : decode cX8_isSelectorRoad 27 = .ok (.iload_n 3, 1) := by decide +kernel
theorem dX8_isSelectorRoad_28 : decode cX8_isSelectorRoad 28 = .ok (.iaload, 1) := by decide +kernel
theorem dX8_isSelectorRoad_29 : decode cX8_isSelectorRoad 29 = .ok (.iload_n 2, 1) := by decide +kernel
theorem dX8_isSelectorRoad_30 : decode cX8_isSelectorRoad 30 = .ok (.if_icmp .eq 21, 3) := by decide +kernel
theorem dX8_isSelectorRoad_33 : decode cX8_isSelectorRoad 33 = .ok (.iload_n 1, 1) := by decide +kernel
theorem dX8_isSelectorRoad_34 : decode cX8_isSelectorRoad 34 = .ok (.bipush 6, 2) := by decide +kernel
theorem dX8_isSelectorRoad_36 : decode cX8_isSelectorRoad 36 = .ok (.irem, 1) := by decide +kernel
theorem dX8_isSelectorRoad_37 : decode cX8_isSelectorRoad 37 = .ok (.iconst 5, 1) := by decide +kernel
theorem dX8_isSelectorRoad_38 : decode cX8_isSelectorRoad 38 = .ok (.if_icmp .ne 17, 3) := by decide +kernel
theorem dX8_isSelectorRoad_41 : decode cX8_isSelectorRoad 41 = .ok (.aload_n 0, 1) := by decide +kernel
theorem dX8_isSelectorRoad_42 : decode cX8_isSelectorRoad 42 = .ok (.getfield 53, 3) := by decide +kernel
theorem dX8_isSelectorRoad_45 : decode cX8_isSelectorRoad 45 = .ok (.iload_n 3, 1) := by decide +kernel
theorem dX8_isSelectorRoad_46 : decode cX8_isSelectorRoad 46 = .ok (.iaload, 1) := by decide +kernel
theorem dX8_isSelectorRoad_47 : decode cX8_isSelectorRoad 47 = .ok (.iload_n 2, 1) := by decide +kernel
theorem dX8_isSelectorRoad_48 : decode cX8_isSelectorRoad 48 = .ok (.if_icmp .ne 7, 3) := by decide +kernel
theorem dX8_isSelectorRoad_51 : decode cX8_isSelectorRoad 51 = .ok (.iconst 1, 1) := by decide +kernel
theorem dX8_isSelectorRoad_52 : decode cX8_isSelectorRoad 52 = .ok (.goto 4, 3) := by decide +kernel
theorem dX8_isSelectorRoad_55 : decode cX8_isSelectorRoad 55 = .ok (.iconst 0, 1) := by decide +kernel
theorem dX8_isSelectorRoad_56 : decode cX8_isSelectorRoad 56 = .ok (.ireturn, 1) := by decide +kernel
theorem dX8_goes_0 : decode cX8_goes 0 = .ok (.iload_n 1, 1) := by decide +kernel
theorem dX8_goes_1 : decode cX8_goes 1 = .ok (.bipush 6, 2) := by decide +kernel
theorem dX8_goes_3 : decode cX8_goes 3 = .ok (.idiv, 1) := by decide +kernel
theorem dX8_goes_4 : decode cX8_goes 4 = .ok (.istore_n 3, 1) := by decide +kernel
theorem dX8_goes_5 : decode cX8_goes 5 = .ok (.iload_n 2, 1) := by decide +kernel
theorem dX8_goes_6 : decode cX8_goes 6 = .ok (.bipush 6, 2) := by decide +kernel
theorem dX8_goes_8 : decode cX8_goes 8 = .ok (.idiv, 1) := by decide +kernel
theorem dX8_goes_9 : decode cX8_goes 9 = .ok (.istore 4, 2) := by decide +kernel
theorem dX8_goes_11 : decode cX8_goes 11 = .ok (.iload_n 1, 1) := by decide +kernel
theorem dX8_goes_12 : decode cX8_goes 12 = .ok (.bipush 6, 2) := by decide +kernel
theorem dX8_goes_14 : decode cX8_goes 14 = .ok (.irem, 1) := by decide +kernel
theorem dX8_goes_15 : decode cX8_goes 15 = .ok (.istore 5, 2) := by decide +kernel
theorem dX8_goes_17 : decode cX8_goes 17 = .ok (.iload_n 2, 1) := by decide +kernel
theorem dX8_goes_18 : decode cX8_goes 18 = .ok (.bipush 6, 2) := by decide +kernel
theorem dX8_goes_20 : decode cX8_goes 20 = .ok (.irem, 1) := by decide +kernel
theorem dX8_goes_21 : decode cX8_goes 21 = .ok (.istore 6, 2) := by decide +kernel
theorem dX8_goes_23 : decode cX8_goes 23 = .ok (.iload_n 3, 1) := by decide +kernel
theorem dX8_goes_24 : decode cX8_goes 24 = .ok (.iload 4, 2) := by decide +kernel
theorem dX8_goes_26 : decode cX8_goes 26 = .ok (.if_icmp .ne 16, 3) := by decide +kernel
theorem dX8_goes_29 : decode cX8_goes 29 = .ok (.iload 6, 2) := by decide +kernel
theorem dX8_goes_31 : decode cX8_goes 31 = .ok (.iload 5, 2) := by decide +kernel
theorem dX8_goes_33 : decode cX8_goes 33 = .ok (.iconst 1, 1) := by decide +kernel
theorem dX8_goes_34 : decode cX8_goes 34 = .ok (.iadd, 1) := by decide +kernel
theorem dX8_goes_35 : decode cX8_goes 35 = .ok (.if_icmp .ne 7, 3) := by decide +kernel
theorem dX8_goes_38 : decode cX8_goes 38 = .ok (.iconst 1, 1) := by decide +kernel
theorem dX8_goes_39 : decode cX8_goes 39 = .ok (.goto 4, 3) := by decide +kernel
theorem dX8_goes_42 : decode cX8_goes 42 = .ok (.iconst 0, 1) := by decide +kernel
theorem dX8_goes_43 : decode cX8_goes 43 = .ok (.istore 7, 2) := by decide +kernel
theorem dX8_goes_45 : decode cX8_goes 45 = .ok (.iload_n 3, 1) := by decide +kernel
theorem dX8_goes_46 : decode cX8_goes 46 = .ok (.iload 4, 2) := by decide +kernel
theorem dX8_goes_48 : decode cX8_goes 48 = .ok (.if_icmp .eq 40, 3) := by decide +kernel
theorem dX8_goes_51 : decode cX8_goes 51 = .ok (.iload_n 3, 1) := by decide +kernel
theorem dX8_goes_52 : decode cX8_goes 52 = .ok (.iconst 2, 1) := by decide +kernel
theorem dX8_goes_53 : decode cX8_goes 53 = .ok (.idiv, 1) := by decide +kernel
theorem dX8_goes_54 : decode cX8_goes 54 = .ok (.iload 4, 2) := by decide +kernel
theorem dX8_goes_56 : decode cX8_goes 56 = .ok (.iconst 2, 1) := by decide +kernel
theorem dX8_goes_57 : decode cX8_goes 57 = .ok (.idiv, 1) := by decide +kernel
theorem dX8_goes_58 : decode cX8_goes 58 = .ok (.if_icmp .ne 30, 3) := by decide +kernel
theorem dX8_goes_61 : decode cX8_goes 61 = .ok (.iload 5, 2) := by decide +kernel
theorem dX8_goes_63 : decode cX8_goes 63 = .ok (.iconst 2, 1) := by decide +kernel
theorem dX8_goes_64 : decode cX8_goes 64 = .ok (.if_icmp .ne 8, 3) := by decide +kernel
theorem dX8_goes_67 : decode cX8_goes 67 = .ok (.iload 6, 2) := by decide +kernel
theorem dX8_goes_69 : decode cX8_goes 69 = .ok (.ifCond .eq 15, 3) := by decide +kernel
theorem dX8_goes_72 : decode cX8_goes 72 = .ok (.iload 5, 2) := by decide +kernel
theorem dX8_goes_74 : decode cX8_goes 74 = .ok (.iconst 5, 1) := by decide +kernel
theorem dX8_goes_75 : decode cX8_goes 75 = .ok (.if_icmp .ne 13, 3) := by decide +kernel
theorem dX8_goes_78 : decode cX8_goes 78 = .ok (.iload 6, 2) := by decide +kernel
theorem dX8_goes_80 : decode cX8_goes 80 = .ok (.iconst 3, 1) := by decide +kernel
theorem dX8_goes_81 : decode cX8_goes 81 = .ok (.if_icmp .ne 7, 3) := by decide +kernel
theorem dX8_goes_84 : decode cX8_goes 84 = .ok (.iconst 1, 1) := by decide +kernel
theorem dX8_goes_85 : decode cX8_goes 85 = .ok (.goto 4, 3) := by decide +kernel
theorem dX8_goes_88 : decode cX8_goes 88 = .ok (.iconst 0, 1) := by decide +kernel
theorem dX8_goes_89 : decode cX8_goes 89 = .ok (.istore 8, 2) := by decide +kernel
theorem dX8_goes_91 : decode cX8_goes 91 = .ok (.iload 5, 2) := by decide +kernel
theorem dX8_goes_93 : decode cX8_goes 93 = .ok (.iconst 5, 1) := by decide +kernel
theorem dX8_goes_94 : decode cX8_goes 94 = .ok (.if_icmp .ne 23, 3) := by decide +kernel
theorem dX8_goes_97 : decode cX8_goes 97 = .ok (.iload 6, 2) := by decide +kernel
theorem dX8_goes_99 : decode cX8_goes 99 = .ok (.ifCond .ne 18, 3) := by decide +kernel
theorem dX8_goes_102 : decode cX8_goes 102 = .ok (.aload_n 0, 1) := by decide +kernel
theorem dX8_goes_103 : decode cX8_goes 103 = .ok (.getfield 47, 3) := by decide +kernel
theorem dX8_goes_106 : decode cX8_goes 106 = .ok (.iload_n 3, 1) := by decide +kernel
theorem dX8_goes_107 : decode cX8_goes 107 = .ok (.iaload, 1) := by decide +kernel
theorem dX8_goes_108 : decode cX8_goes 108 = .ok (.iload 4, 2) := by decide +kernel
theorem dX8_goes_110 : decode cX8_goes 110 = .ok (.if_icmp .ne 7, 3) := by decide +kernel
theorem dX8_goes_113 : decode cX8_goes 113 = .ok (.iconst 1, 1) := by decide +kernel
theorem dX8_goes_114 : decode cX8_goes 114 = .ok (.goto 4, 3) := by decide +kernel
theorem dX8_goes_117 : decode cX8_goes 117 = .ok (.iconst 0, 1) := by decide +kernel
theorem dX8_goes_118 : decode cX8_goes 118 = .ok (.istore 9, 2) := by decide +kernel
theorem dX8_goes_120 : decode cX8_goes 120 = .ok (.iload 7, 2) := by decide +kernel
theorem dX8_goes_122 : decode cX8_goes 122 = .ok (.ifCond .ne 13, 3) := by decide +kernel
theorem dX8_goes_125 : decode cX8_goes 125 = .ok (.iload 8, 2) := by decide +kernel
theorem dX8_goes_127 : decode cX8_goes 127 = .ok (.ifCond .ne 8, 3) := by decide +kernel
theorem dX8_goes_130 : decode cX8_goes 130 = .ok (.iload 9, 2) := by decide +kernel
theorem dX8_goes_132 : decode cX8_goes 132 = .ok (.ifCond .eq 7, 3) := by decide +kernel
theorem dX8_goes_135 : decode cX8_goes 135 = .ok (.iconst 1, 1) := by decide +kernel
theorem dX8_goes_136 : decode cX8_goes 136 = .ok (.goto 4, 3) := by decide +kernel
theorem dX8_goes_139 : decode cX8_goes 139 = .ok (.iconst 0, 1) := by decide +kernel
theorem dX8_goes_140 : decode cX8_goes 140 = .ok (.ireturn, 1) := by decide +kernel
set_option maxRecDepth 20000 in
theorem ggX8_isRoad_X8_isSelectorRoad : GoodIn wsX8_isRoad wsX8_isSelectorRoad := goodIn_r _ [6, 7, 8, 9, 10, 11, 5, 12, 13, 14, 20, 21, 22, 23, 24, 25, 26, 27, 28, 29, 30, 31, 32, 33, 34, 35, 36, 37, 38, 39, 40, 41, 42, 43, 44, 45, 46, 47, 48, 49, 50, 51, 52, 53, 54, 55, 56] (by decide +kernel) (by decide +kernel)
set_option maxRecDepth 20000 in
theorem gX8_isRoad_X8_isSelectorRoad : GoodIn wsX8_isRoad (wsV RX8 191 RX8 yX8_isSelectorRoad wsX8_isSelectorRoad) := goodIn_app (goodIn_of _ (by decide +kernel)) ggX8_isRoad_X8_isSelectorRoad
set_option maxRecDepth 20000 in
theorem ggX8_isRoad_X8_goes : GoodIn wsX8_isRoad wsX8_goes := goodIn_r _ [18, 19, 20, 21, 22, 23, 24, 25, 26, 27, 28, 29, 30, 31, 32, 33, 34, 35, 36, 37, 38, 39, 40, 41, 42, 43, 44, 45, 46, 47, 48, 49, 50, 51, 52, 53, 54, 55, 56] (by decide +kernel) (by decide +kernel)
set_option maxRecDepth 20000 in
theorem gX8_isRoad_X8_goes : GoodIn wsX8_isRoad (wsV RX8 195 RX8 yX8_goes wsX8_goes) := goodIn_app (goodIn_of _ (by decide +kernel)) ggX8_isRoad_X8_goes
theorem dX8_isRoad_0 : decode cX8_isRoad 0 = .ok (.bipush 12, 2) := by decide +kernel
theorem dX8_isRoad_2 : decode cX8_isRoad 2 = .ok (.aload_n 0, 1) := by decide +kernel
theorem dX8_isRoad_3 : decode cX8_isRoad 3 = .ok (.getfield 164, 3) := by decide +kernel
theorem dX8_isRoad_6 : decode cX8_isRoad 6 = .ok (.imul, 1) := by decide +kernel
theorem dX8_isRoad_7 : decode cX8_isRoad 7 = .ok (.istore_n 3, 1) := by decide +kernel
theorem dX8_isRoad_8 : decode cX8_isRoad 8 = .ok (.iload_n 1, 1) := by decide +kernel
theorem dX8_isRoad_9 : decode cX8_isRoad 9 = .ok (.iload_n 3, 1) := by decide +kernel
theorem dX8_isRoad_10 : decode cX8_isRoad 10 = .ok (.if_icmp .lt 10, 3) := by decide +kernel
theorem dX8_isRoad_13 : decode cX8_isRoad 13 = .ok (.iload_n 2, 1) := by decide +kernel
theorem dX8_isRoad_14 : decode cX8_isRoad 14 = .ok (.iload_n 3, 1) := by decide +kernel
theorem dX8_isRoad_15 : decode cX8_isRoad 15 = .ok (.if_icmp .lt 5, 3) := by decide +kernel
theorem dX8_isRoad_18 : decode cX8_isRoad 18 = .ok (.iconst 0, 1) := by decide +kernel
theorem dX8_isRoad_19 : decode cX8_isRoad 19 = .ok (.ireturn, 1) := by decide +kernel
theorem dX8_isRoad_20 : decode cX8_isRoad 20 = .ok (.iload_n 1, 1) := by decide +kernel
theorem dX8_isRoad_21 : decode cX8_isRoad 21 = .ok (.iload_n 3, 1) := by decide +kernel
theorem dX8_isRoad_22 : decode cX8_isRoad 22 = .ok (.if_icmp .lt 9, 3) := by decide +kernel
theorem dX8_isRoad_25 : decode cX8_isRoad 25 = .ok (.aload_n 0, 1) := by decide +kernel
theorem dX8_isRoad_26 : decode cX8_isRoad 26 = .ok (.iload_n 2, 1) := by decide +kernel
theorem dX8_isRoad_27 : decode cX8_isRoad 27 = .ok (.invokevirtual 191, 3) := by decide +kernel
theorem dX8_isRoad_30 : decode cX8_isRoad 30 = .ok (.ireturn, 1) := by decide +kernel
theorem dX8_isRoad_31 : decode cX8_isRoad 31 = .ok (.iload_n 2, 1) := by decide +kernel
theorem dX8_isRoad_32 : decode cX8_isRoad 32 = .ok (.iload_n 3, 1) := by decide +kernel
theorem dX8_isRoad_33 : decode cX8_isRoad 33 = .ok (.if_icmp .lt 11, 3) := by decide +kernel
theorem dX8_isRoad_36 : decode cX8_isRoad 36 = .ok (.aload_n 0, 1) := by decide +kernel
theorem dX8_isRoad_37 : decode cX8_isRoad 37 = .ok (.iload_n 1, 1) := by decide +kernel
theorem dX8_isRoad_38 : decode cX8_isRoad 38 = .ok (.invokevirtual 191, 3) := by decide +kernel
theorem dX8_isRoad_41 : decode cX8_isRoad 41 = .ok (.goto 26, 3) := by decide +kernel
theorem dX8_isRoad_44 : decode cX8_isRoad 44 = .ok (.aload_n 0, 1) := by decide +kernel
theorem dX8_isRoad_45 : decode cX8_isRoad 45 = .ok (.iload_n 1, 1) := by decide +kernel
theorem dX8_isRoad_46 : decode cX8_isRoad 46 = .ok (.iload_n 2, 1) := by decide +kernel
theorem dX8_isRoad_47 : decode cX8_isRoad 47 = .ok (.invokevirtual 195, 3) := by decide +kernel
theorem dX8_isRoad_50 : decode cX8_isRoad 50 = .ok (.ifCond .ne 12, 3) := by decide +kernel
theorem dX8_isRoad_53 : decode cX8_isRoad 53 = .ok (.aload_n 0, 1) := by decide +kernel
theorem dX8_isRoad_54 : decode cX8_isRoad 54 = .ok (.iload_n 2, 1) := by decide +kernel
theorem dX8_isRoad_55 : decode cX8_isRoad 55 = .ok (.iload_n 1, 1) := by decide +kernel
theorem dX8_isRoad_56 : decode cX8_isRoad 56 = .ok (.invokevirtual 195, 3) := by decide +kernel
theorem dX8_isRoad_59 : decode cX8_isRoad 59 = .ok (.ifCond .eq 7, 3) := by decide +kernel
theorem dX8_isRoad_62 : decode cX8_isRoad 62 = .ok (.iconst 1, 1) := by decide +kernel
theorem dX8_isRoad_63 : decode cX8_isRoad 63 = .ok (.goto 4, 3) := by decide +kernel
theorem dX8_isRoad_66 : decode cX8_isRoad 66 = .ok (.iconst 0, 1) := by decide +kernel
theorem dX8_isRoad_67 : decode cX8_isRoad 67 = .ok (.ireturn, 1) := by decide +kernel
set_option maxRecDepth 20000 in
theorem ggX8_far_X8_isRoad : GoodIn wsX8_far wsX8_isRoad := goodIn_r _ [5, 6, 7, 8, 9, 4, 10, 11, 12, 13, 14, 15, 16, 17, 18, 19, 20, 21, 22, 23, 24, 25, 26, 27, 28, 29, 30, 31, 32, 33, 34, 35, 36, 37, 38, 39, 40, 41, 42, 43, 44, 45, 46, 47, 48, 49, 50, 51, 52, 53, 54, 55, 56, 57, 58, 59, 60] (by decide +kernel) (by decide +kernel)
set_option maxRecDepth 20000 in
theorem gX8_far_X8_isRoad : GoodIn wsX8_far (wsV RX8 199 RX8 yX8_isRoad wsX8_isRoad) := goodIn_app (goodIn_of _ (by decide +kernel)) ggX8_far_X8_isRoad
theorem dX8_far_0 : decode cX8_far 0 = .ok (.iload_n 1, 1) := by decide +kernel
theorem dX8_far_1 : decode cX8_far 1 = .ok (.iload_n 2, 1) := by decide +kernel
theorem dX8_far_2 : decode cX8_far 2 = .ok (.if_icmp .ne 7, 3) := by decide +kernel
theorem dX8_far_5 : decode cX8_far 5 = .ok (.iconst 0, 1) := by decide +kernel
theorem dX8_far_6 : decode cX8_far 6 = .ok (.goto 17, 3) := by decide +kernel
theorem dX8_far_9 : decode cX8_far 9 = .ok (.aload_n 0, 1) := by decide +kernel
theorem dX8_far_10 : decode cX8_far 10 = .ok (.iload_n 1, 1) := by decide +kernel
theorem dX8_far_11 : decode cX8_far 11 = .ok (.iload_n 2, 1) := by decide +kernel
theorem dX8_far_12 : decode cX8_far 12 = .ok (.invokevirtual 199, 3) := by decide +kernel
theorem dX8_far_15 : decode cX8_far 15 = .ok (.ifCond .eq 7, 3) := by decide +kernel
theorem dX8_far_18 : decode cX8_far 18 = .ok (.iconst 1, 1) := by decide +kernel
theorem dX8_far_19 : decode cX8_far 19 = .ok (.goto 4, 3) := by decide +kernel
theorem dX8_far_22 : decode cX8_far 22 = .ok (.iconst 2, 1) := by decide +kernel
theorem dX8_far_23 : decode cX8_far 23 = .ok (.ireturn, 1) := by decide +kernel
set_option maxRecDepth 20000 in
theorem ggX8_apart_X8_in : GoodIn wsX8_apart wsX8_in := goodIn_r _ [7] (by decide +kernel) (by decide +kernel)
set_option maxRecDepth 20000 in
theorem gX8_apart_X8_in : GoodIn wsX8_apart (va_wsS RX8 92 yX8_in wsX8_in) := goodIn_app (goodIn_of _ (by decide +kernel)) ggX8_apart_X8_in
set_option maxRecDepth 20000 in
theorem ggX8_apart_X8_far : GoodIn wsX8_apart wsX8_far := goodIn_r _ [11, 12, 13, 14, 6, 15, 16, 17, 18, 19, 20, 21, 22, 23, 24, 25, 26, 27, 28, 29, 30, 31, 32, 33, 34, 35, 36, 37, 38, 39, 40, 41, 42, 43, 44, 45, 46, 47, 48, 49, 50, 51, 52, 53, 54, 55, 56, 57, 58, 59, 60, 61, 62, 63, 64, 65, 66, 67, 68, 69, 70] (by decide +kernel) (by decide +kernel)
set_option maxRecDepth 20000 in
theorem gX8_apart_X8_far : GoodIn wsX8_apart (wsV RX8 202 RX8 yX8_far wsX8_far) := goodIn_app (goodIn_of _ (by decide +kernel)) ggX8_apart_X8_far
theorem dX8_apart_0 : decode cX8_apart 0 = .ok (.aload_n 0, 1) := by decide +kernel
theorem dX8_apart_1 : decode cX8_apart 1 = .ok (.iconst 0, 1) := by decide +kernel
theorem dX8_apart_2 : decode cX8_apart 2 = .ok (.putfield 79, 3) := by decide +kernel
theorem dX8_apart_5 : decode cX8_apart 5 = .ok (.aload_n 0, 1) := by decide +kernel
theorem dX8_apart_6 : decode cX8_apart 6 = .ok (.getfield 82, 3) := by decide +kernel
theorem dX8_apart_9 : decode cX8_apart 9 = .ok (.ifCond .eq 40, 3) := by decide +kernel
theorem dX8_apart_12 : decode cX8_apart 12 = .ok (.iload_n 1, 1) := by decide +kernel
theorem dX8_apart_13 : decode cX8_apart 13 = .ok (.iconst 0, 1) := by decide +kernel
theorem dX8_apart_14 : decode cX8_apart 14 = .ok (.aload_n 0, 1) := by decide +kernel
theorem dX8_apart_15 : decode cX8_apart 15 = .ok (.getfield 185, 3) := by decide +kernel
theorem dX8_apart_18 : decode cX8_apart 18 = .ok (.iconst 1, 1) := by decide +kernel
theorem dX8_apart_19 : decode cX8_apart 19 = .ok (.isub, 1) := by decide +kernel
theorem dX8_apart_20 : decode cX8_apart 20 = .ok (.invokestatic 92, 3) := by decide +kernel
theorem dX8_apart_23 : decode cX8_apart 23 = .ok (.ifCond .eq 26, 3) := by decide +kernel
theorem dX8_apart_26 : decode cX8_apart 26 = .ok (.iload_n 2, 1) := by decide +kernel
theorem dX8_apart_27 : decode cX8_apart 27 = .ok (.iconst 0, 1) := by decide +kernel
theorem dX8_apart_28 : decode cX8_apart 28 = .ok (.aload_n 0, 1) := by decide +kernel
theorem dX8_apart_29 : decode cX8_apart 29 = .ok (.getfield 185, 3) := by decide +kernel
theorem dX8_apart_32 : decode cX8_apart 32 = .ok (.iconst 1, 1) := by decide +kernel
theorem dX8_apart_33 : decode cX8_apart 33 = .ok (.isub, 1) := by decide +kernel
theorem dX8_apart_34 : decode cX8_apart 34 = .ok (.invokestatic 92, 3) := by decide +kernel
theorem dX8_apart_37 : decode cX8_apart 37 = .ok (.ifCond .eq 12, 3) := by decide +kernel
theorem dX8_apart_40 : decode cX8_apart 40 = .ok (.aload_n 0, 1) := by decide +kernel
theorem dX8_apart_41 : decode cX8_apart 41 = .ok (.iload_n 1, 1) := by decide +kernel
theorem dX8_apart_42 : decode cX8_apart 42 = .ok (.iload_n 2, 1) := by decide +kernel
theorem dX8_apart_43 : decode cX8_apart 43 = .ok (.invokevirtual 202, 3) := by decide +kernel
theorem dX8_apart_46 : decode cX8_apart 46 = .ok (.goto 4, 3) := by decide +kernel
theorem dX8_apart_49 : decode cX8_apart 49 = .ok (.iconst (-1), 1) := by decide +kernel
theorem dX8_apart_50 : decode cX8_apart 50 = .ok (.ireturn, 1) := by decide +kernel
set_option maxRecDepth 20000 in
theorem ggX8_follows_X8_in : GoodIn wsX8_follows wsX8_in := goodIn_r _ [15] (by decide +kernel) (by decide +kernel)
set_option maxRecDepth 20000 in
theorem gX8_follows_X8_in : GoodIn wsX8_follows (va_wsS RX8 92 yX8_in wsX8_in) := goodIn_app (goodIn_of _ (by decide +kernel)) ggX8_follows_X8_in
theorem dX8_follows_0 : decode cX8_follows 0 = .ok (.aload_n 0, 1) := by decide +kernel
theorem dX8_follows_1 : decode cX8_follows 1 = .ok (.getfield 59, 3) := by decide +kernel
theorem dX8_follows_4 : decode cX8_follows 4 = .ok (.iload_n 1, 1) := by decide +kernel
theorem dX8_follows_5 : decode cX8_follows 5 = .ok (.iaload, 1) := by decide +kernel
theorem dX8_follows_6 : decode cX8_follows 6 = .ok (.istore_n 3, 1) := by decide +kernel
theorem dX8_follows_7 : decode cX8_follows 7 = .ok (.iload_n 2, 1) := by decide +kernel
theorem dX8_follows_8 : decode cX8_follows 8 = .ok (.aload_n 0, 1) := by decide +kernel
theorem dX8_follows_9 : decode cX8_follows 9 = .ok (.getfield 96, 3) := by decide +kernel
theorem dX8_follows_12 : decode cX8_follows 12 = .ok (.if_icmp .ne 7, 3) := by decide +kernel
theorem dX8_follows_15 : decode cX8_follows 15 = .ok (.iconst 1, 1) := by decide +kernel
theorem dX8_follows_16 : decode cX8_follows 16 = .ok (.goto 4, 3) := by decide +kernel
theorem dX8_follows_19 : decode cX8_follows 19 = .ok (.iconst 0, 1) := by decide +kernel
theorem dX8_follows_20 : decode cX8_follows 20 = .ok (.istore 4, 2) := by decide +kernel
theorem dX8_follows_22 : decode cX8_follows 22 = .ok (.iload 4, 2) := by decide +kernel
theorem dX8_follows_24 : decode cX8_follows 24 = .ok (.ifCond .eq 26, 3) := by decide +kernel
theorem dX8_follows_27 : decode cX8_follows 27 = .ok (.aload_n 0, 1) := by decide +kernel
theorem dX8_follows_28 : decode cX8_follows 28 = .ok (.getfield 62, 3) := by decide +kernel
theorem dX8_follows_31 : decode cX8_follows 31 = .ok (.iload_n 1, 1) := by decide +kernel
theorem dX8_follows_32 : decode cX8_follows 32 = .ok (.iaload, 1) := by decide +kernel
theorem dX8_follows_33 : decode cX8_follows 33 = .ok (.aload_n 0, 1) := by decide +kernel
theorem dX8_follows_34 : decode cX8_follows 34 = .ok (.getfield 7, 3) := by decide +kernel
theorem dX8_follows_37 : decode cX8_follows 37 = .ok (.iconst 1, 1) := by decide +kernel
theorem dX8_follows_38 : decode cX8_follows 38 = .ok (.isub, 1) := by decide +kernel
theorem dX8_follows_39 : decode cX8_follows 39 = .ok (.if_icmp .ne 7, 3) := by decide +kernel
theorem dX8_follows_42 : decode cX8_follows 42 = .ok (.iconst 1, 1) := by decide +kernel
theorem dX8_follows_43 : decode cX8_follows 43 = .ok (.goto 73, 3) := by decide +kernel
theorem dX8_follows_46 : decode cX8_follows 46 = .ok (.iconst 0, 1) := by decide +kernel
theorem dX8_follows_47 : decode cX8_follows 47 = .ok (.goto 69, 3) := by decide +kernel
theorem dX8_follows_50 : decode cX8_follows 50 = .ok (.iload_n 2, 1) := by decide +kernel
theorem dX8_follows_51 : decode cX8_follows 51 = .ok (.aload_n 0, 1) := by decide +kernel
theorem dX8_follows_52 : decode cX8_follows 52 = .ok (.getfield 96, 3) := by decide +kernel
theorem dX8_follows_55 : decode cX8_follows 55 = .ok (.if_icmp .ge 60, 3) := by decide +kernel
theorem dX8_follows_58 : decode cX8_follows 58 = .ok (.aload_n 0, 1) := by decide +kernel
theorem dX8_follows_59 : decode cX8_follows 59 = .ok (.getfield 62, 3) := by decide +kernel
theorem dX8_follows_62 : decode cX8_follows 62 = .ok (.iload_n 1, 1) := by decide +kernel
theorem dX8_follows_63 : decode cX8_follows 63 = .ok (.iaload, 1) := by decide +kernel
theorem dX8_follows_64 : decode cX8_follows 64 = .ok (.aload_n 0, 1) := by decide +kernel
theorem dX8_follows_65 : decode cX8_follows 65 = .ok (.getfield 19, 3) := by decide +kernel
theorem dX8_follows_68 : decode cX8_follows 68 = .ok (.iload_n 2, 1) := by decide +kernel
theorem dX8_follows_69 : decode cX8_follows 69 = .ok (.iaload, 1) := by decide +kernel
theorem dX8_follows_70 : decode cX8_follows 70 = .ok (.if_icmp .ne 45, 3) := by decide +kernel
theorem dX8_follows_73 : decode cX8_follows 73 = .ok (.aload_n 0, 1) := by decide +kernel
theorem dX8_follows_74 : decode cX8_follows 74 = .ok (.getfield 65, 3) := by decide +kernel
theorem dX8_follows_77 : decode cX8_follows 77 = .ok (.iconst 4, 1) := by decide +kernel
theorem dX8_follows_78 : decode cX8_follows 78 = .ok (.iload_n 1, 1) := by decide +kernel
theorem dX8_follows_79 : decode cX8_follows 79 = .ok (.imul, 1) := by decide +kernel
theorem dX8_follows_80 : decode cX8_follows 80 = .ok (.iload_n 3, 1) := by decide +kernel
theorem dX8_follows_81 : decode cX8_follows 81 = .ok (.iadd, 1) := by decide +kernel
theorem dX8_follows_82 : decode cX8_follows 82 = .ok (.iaload, 1) := by decide +kernel
theorem dX8_follows_83 : decode cX8_follows 83 = .ok (.aload_n 0, 1) := by decide +kernel
theorem dX8_follows_84 : decode cX8_follows 84 = .ok (.getfield 23, 3) := by decide +kernel
theorem dX8_follows_87 : decode cX8_follows 87 = .ok (.iload_n 2, 1) := by decide +kernel
theorem dX8_follows_88 : decode cX8_follows 88 = .ok (.iaload, 1) := by decide +kernel
theorem dX8_follows_89 : decode cX8_follows 89 = .ok (.if_icmp .ne 26, 3) := by decide +kernel
theorem dX8_follows_92 : decode cX8_follows 92 = .ok (.iload_n 3, 1) := by decide +kernel
theorem dX8_follows_93 : decode cX8_follows 93 = .ok (.aload_n 0, 1) := by decide +kernel
theorem dX8_follows_94 : decode cX8_follows 94 = .ok (.getfield 32, 3) := by decide +kernel
theorem dX8_follows_97 : decode cX8_follows 97 = .ok (.iload_n 2, 1) := by decide +kernel
theorem dX8_follows_98 : decode cX8_follows 98 = .ok (.iaload, 1) := by decide +kernel
theorem dX8_follows_99 : decode cX8_follows 99 = .ok (.iadd, 1) := by decide +kernel
theorem dX8_follows_100 : decode cX8_follows 100 = .ok (.iconst 0, 1) := by decide +kernel
theorem dX8_follows_101 : decode cX8_follows 101 = .ok (.aload_n 0, 1) := by decide +kernel
theorem dX8_follows_102 : decode cX8_follows 102 = .ok (.getfield 16, 3) := by decide +kernel
theorem dX8_follows_105 : decode cX8_follows 105 = .ok (.invokestatic 92, 3) := by decide +kernel
theorem dX8_follows_108 : decode cX8_follows 108 = .ok (.ifCond .eq 7, 3) := by decide +kernel
theorem dX8_follows_111 : decode cX8_follows 111 = .ok (.iconst 1, 1) := by decide +kernel
theorem dX8_follows_112 : decode cX8_follows 112 = .ok (.goto 4, 3) := by decide +kernel
theorem dX8_follows_115 : decode cX8_follows 115 = .ok (.iconst 0, 1) := by decide +kernel
theorem dX8_follows_116 : decode cX8_follows 116 = .ok (.istore 5, 2) := by decide +kernel
theorem dX8_follows_118 : decode cX8_follows 118 = .ok (.iload 5, 2) := by decide +kernel
theorem dX8_follows_120 : decode cX8_follows 120 = .ok (.ifCond .ne 5, 3) := by decide +kernel
theorem dX8_follows_123 : decode cX8_follows 123 = .ok (.iconst 0, 1) := by decide +kernel
theorem dX8_follows_124 : decode cX8_follows 124 = .ok (.ireturn, 1) := by decide +kernel
theorem dX8_follows_125 : decode cX8_follows 125 = .ok (.iconst 0, 1) := by decide +kernel
theorem dX8_follows_126 : decode cX8_follows 126 = .ok (.istore 6, 2) := by decide +kernel
theorem dX8_follows_128 : decode cX8_follows 128 = .ok (.iload 6, 2) := by decide +kernel
theorem dX8_follows_130 : decode cX8_follows 130 = .ok (.aload_n 0, 1) := by decide +kernel
theorem dX8_follows_131 : decode cX8_follows 131 = .ok (.getfield 16, 3) := by decide +kernel
theorem dX8_follows_134 : decode cX8_follows 134 = .ok (.if_icmp .gt 33, 3) := by decide +kernel
theorem dX8_follows_137 : decode cX8_follows 137 = .ok (.aload_n 0, 1) := by decide +kernel
theorem dX8_follows_138 : decode cX8_follows 138 = .ok (.getfield 65, 3) := by decide +kernel
theorem dX8_follows_141 : decode cX8_follows 141 = .ok (.iconst 4, 1) := by decide +kernel
theorem dX8_follows_142 : decode cX8_follows 142 = .ok (.iload_n 1, 1) := by decide +kernel
theorem dX8_follows_143 : decode cX8_follows 143 = .ok (.imul, 1) := by decide +kernel
theorem dX8_follows_144 : decode cX8_follows 144 = .ok (.iconst 4, 1) := by decide +kernel
theorem dX8_follows_145 : decode cX8_follows 145 = .ok (.iadd, 1) := by decide +kernel
theorem dX8_follows_146 : decode cX8_follows 146 = .ok (.iload 6, 2) := by decide +kernel
theorem dX8_follows_148 : decode cX8_follows 148 = .ok (.iadd, 1) := by decide +kernel
theorem dX8_follows_149 : decode cX8_follows 149 = .ok (.aload_n 0, 1) := by decide +kernel
theorem dX8_follows_150 : decode cX8_follows 150 = .ok (.getfield 65, 3) := by decide +kernel
theorem dX8_follows_153 : decode cX8_follows 153 = .ok (.iconst 4, 1) := by decide +kernel
theorem dX8_follows_154 : decode cX8_follows 154 = .ok (.iload_n 1, 1) := by decide +kernel
theorem dX8_follows_155 : decode cX8_follows 155 = .ok (.imul, 1) := by decide +kernel
theorem dX8_follows_156 : decode cX8_follows 156 = .ok (.iload 6, 2) := by decide +kernel
theorem dX8_follows_158 : decode cX8_follows 158 = .ok (.iadd, 1) := by decide +kernel
theorem dX8_follows_159 : decode cX8_follows 159 = .ok (.iaload, 1) := by decide +kernel
theorem dX8_follows_160 : decode cX8_follows 160 = .ok (.iastore, 1) := by decide +kernel
theorem dX8_follows_161 : decode cX8_follows 161 = .ok (.iinc 6 1, 3) := by decide +kernel
theorem dX8_follows_164 : decode cX8_follows 164 = .ok (.goto (-36), 3) := by decide +kernel
theorem dX8_follows_167 : decode cX8_follows 167 = .ok (.iload 4, 2) := by decide +kernel
theorem dX8_follows_169 : decode cX8_follows 169 = .ok (.ifCond .ne 21, 3) := by decide +kernel
theorem dX8_follows_172 : decode cX8_follows 172 = .ok (.aload_n 0, 1) := by decide +kernel
theorem dX8_follows_173 : decode cX8_follows 173 = .ok (.getfield 65, 3) := by decide +kernel
theorem dX8_follows_176 : decode cX8_follows 176 = .ok (.iconst 4, 1) := by decide +kernel
theorem dX8_follows_177 : decode cX8_follows 177 = .ok (.iload_n 1, 1) := by decide +kernel
theorem dX8_follows_178 : decode cX8_follows 178 = .ok (.imul, 1) := by decide +kernel
theorem dX8_follows_179 : decode cX8_follows 179 = .ok (.iconst 4, 1) := by decide +kernel
theorem dX8_follows_180 : decode cX8_follows 180 = .ok (.iadd, 1) := by decide +kernel
theorem dX8_follows_181 : decode cX8_follows 181 = .ok (.iload_n 3, 1) := by decide +kernel
theorem dX8_follows_182 : decode cX8_follows 182 = .ok (.iadd, 1) := by decide +kernel
theorem dX8_follows_183 : decode cX8_follows 183 = .ok (.aload_n 0, 1) := by decide +kernel
theorem dX8_follows_184 : decode cX8_follows 184 = .ok (.getfield 29, 3) := by decide +kernel
theorem dX8_follows_187 : decode cX8_follows 187 = .ok (.iload_n 2, 1) := by decide +kernel
theorem dX8_follows_188 : decode cX8_follows 188 = .ok (.iaload, 1) := by decide +kernel
theorem dX8_follows_189 : decode cX8_follows 189 = .ok (.iastore, 1) := by decide +kernel
theorem dX8_follows_190 : decode cX8_follows 190 = .ok (.aload_n 0, 1) := by decide +kernel
theorem dX8_follows_191 : decode cX8_follows 191 = .ok (.getfield 59, 3) := by decide +kernel
theorem dX8_follows_194 : decode cX8_follows 194 = .ok (.iload_n 1, 1) := by decide +kernel
theorem dX8_follows_195 : decode cX8_follows 195 = .ok (.iconst 1, 1) := by decide +kernel
theorem dX8_follows_196 : decode cX8_follows 196 = .ok (.iadd, 1) := by decide +kernel
theorem dX8_follows_197 : decode cX8_follows 197 = .ok (.iload 4, 2) := by decide +kernel
theorem dX8_follows_199 : decode cX8_follows 199 = .ok (.ifCond .eq 7, 3) := by decide +kernel
theorem dX8_follows_202 : decode cX8_follows 202 = .ok (.iload_n 3, 1) := by decide +kernel
theorem dX8_follows_203 : decode cX8_follows 203 = .ok (.goto 11, 3) := by decide +kernel
theorem dX8_follows_206 : decode cX8_follows 206 = .ok (.iload_n 3, 1) := by decide +kernel
theorem dX8_follows_207 : decode cX8_follows 207 = .ok (.aload_n 0, 1) := by decide +kernel
theorem dX8_follows_208 : decode cX8_follows 208 = .ok (.getfield 32, 3) := by decide +kernel
theorem dX8_follows_211 : decode cX8_follows 211 = .ok (.iload_n 2, 1) := by decide +kernel
theorem dX8_follows_212 : decode cX8_follows 212 = .ok (.iaload, 1) := by decide +kernel
theorem dX8_follows_213 : decode cX8_follows 213 = .ok (.iadd, 1) := by decide +kernel
theorem dX8_follows_214 : decode cX8_follows 214 = .ok (.iastore, 1) := by decide +kernel
theorem dX8_follows_215 : decode cX8_follows 215 = .ok (.aload_n 0, 1) := by decide +kernel
theorem dX8_follows_216 : decode cX8_follows 216 = .ok (.getfield 62, 3) := by decide +kernel
theorem dX8_follows_219 : decode cX8_follows 219 = .ok (.iload_n 1, 1) := by decide +kernel
theorem dX8_follows_220 : decode cX8_follows 220 = .ok (.iconst 1, 1) := by decide +kernel
theorem dX8_follows_221 : decode cX8_follows 221 = .ok (.iadd, 1) := by decide +kernel
theorem dX8_follows_222 : decode cX8_follows 222 = .ok (.iload 4, 2) := by decide +kernel
theorem dX8_follows_224 : decode cX8_follows 224 = .ok (.ifCond .eq 12, 3) := by decide +kernel
theorem dX8_follows_227 : decode cX8_follows 227 = .ok (.aload_n 0, 1) := by decide +kernel
theorem dX8_follows_228 : decode cX8_follows 228 = .ok (.getfield 62, 3) := by decide +kernel
theorem dX8_follows_231 : decode cX8_follows 231 = .ok (.iload_n 1, 1) := by decide +kernel
theorem dX8_follows_232 : decode cX8_follows 232 = .ok (.iaload, 1) := by decide +kernel
theorem dX8_follows_233 : decode cX8_follows 233 = .ok (.goto 9, 3) := by decide +kernel
theorem dX8_follows_236 : decode cX8_follows 236 = .ok (.aload_n 0, 1) := by decide +kernel
theorem dX8_follows_237 : decode cX8_follows 237 = .ok (.getfield 26, 3) := by decide +kernel
theorem dX8_follows_240 : decode cX8_follows 240 = .ok (.iload_n 2, 1) := by decide +kernel
theorem dX8_follows_241 : decode cX8_follows 241 = .ok (.iaload, 1) := by decide +kernel
theorem dX8_follows_242 : decode cX8_follows 242 = .ok (.iastore, 1) := by decide +kernel
theorem dX8_follows_243 : decode cX8_follows 243 = .ok (.iconst 1, 1) := by decide +kernel
theorem dX8_follows_244 : decode cX8_follows 244 = .ok (.ireturn, 1) := by decide +kernel
set_option maxRecDepth 20000 in
theorem ggX8_runs_X8_follows : GoodIn wsX8_runs wsX8_follows := goodIn_r _ [12, 4, 13, 5, 7, 14, 2, 15, 16, 1, 17, 18, 19, 20, 11, 21, 22, 23, 24, 25, 26, 27, 28, 29, 30, 31, 32, 33, 34, 35, 36, 37, 38, 39, 40, 41, 42, 43, 44, 45, 46, 47, 48, 49, 50, 51, 52, 53, 54, 55, 56, 57, 58] (by decide +kernel) (by decide +kernel)
set_option maxRecDepth 20000 in
theorem gX8_runs_X8_follows : GoodIn wsX8_runs (wsV RX8 205 RX8 yX8_follows wsX8_follows) := goodIn_app (goodIn_of _ (by decide +kernel)) ggX8_runs_X8_follows
theorem dX8_runs_0 : decode cX8_runs 0 = .ok (.iconst 0, 1) := by decide +kernel
theorem dX8_runs_1 : decode cX8_runs 1 = .ok (.istore_n 1, 1) := by decide +kernel
theorem dX8_runs_2 : decode cX8_runs 2 = .ok (.iload_n 1, 1) := by decide +kernel
theorem dX8_runs_3 : decode cX8_runs 3 = .ok (.aload_n 0, 1) := by decide +kernel
theorem dX8_runs_4 : decode cX8_runs 4 = .ok (.getfield 16, 3) := by decide +kernel
theorem dX8_runs_7 : decode cX8_runs 7 = .ok (.if_icmp .gt 21, 3) := by decide +kernel
theorem dX8_runs_10 : decode cX8_runs 10 = .ok (.aload_n 0, 1) := by decide +kernel
theorem dX8_runs_11 : decode cX8_runs 11 = .ok (.getfield 65, 3) := by decide +kernel
theorem dX8_runs_14 : decode cX8_runs 14 = .ok (.iload_n 1, 1) := by decide +kernel
theorem dX8_runs_15 : decode cX8_runs 15 = .ok (.aload_n 0, 1) := by decide +kernel
theorem dX8_runs_16 : decode cX8_runs 16 = .ok (.getfield 35, 3) := by decide +kernel
theorem dX8_runs_19 : decode cX8_runs 19 = .ok (.iload_n 1, 1) := by decide +kernel
theorem dX8_runs_20 : decode cX8_runs 20 = .ok (.iaload, 1) := by decide +kernel
theorem dX8_runs_21 : decode cX8_runs 21 = .ok (.iastore, 1) := by decide +kernel
theorem dX8_runs_22 : decode cX8_runs 22 = .ok (.iinc 1 1, 3) := by decide +kernel
theorem dX8_runs_25 : decode cX8_runs 25 = .ok (.goto (-23), 3) := by decide +kernel
theorem dX8_runs_28 : decode cX8_runs 28 = .ok (.aload_n 0, 1) := by decide +kernel
theorem dX8_runs_29 : decode cX8_runs 29 = .ok (.getfield 59, 3) := by decide +kernel
theorem dX8_runs_32 : decode cX8_runs 32 = .ok (.iconst 0, 1) := by decide +kernel
theorem dX8_runs_33 : decode cX8_runs 33 = .ok (.iconst 0, 1) := by decide +kernel
theorem dX8_runs_34 : decode cX8_runs 34 = .ok (.iastore, 1) := by decide +kernel
theorem dX8_runs_35 : decode cX8_runs 35 = .ok (.aload_n 0, 1) := by decide +kernel
theorem dX8_runs_36 : decode cX8_runs 36 = .ok (.getfield 62, 3) := by decide +kernel
theorem dX8_runs_39 : decode cX8_runs 39 = .ok (.iconst 0, 1) := by decide +kernel
theorem dX8_runs_40 : decode cX8_runs 40 = .ok (.iconst 0, 1) := by decide +kernel
theorem dX8_runs_41 : decode cX8_runs 41 = .ok (.iastore, 1) := by decide +kernel
theorem dX8_runs_42 : decode cX8_runs 42 = .ok (.iconst 0, 1) := by decide +kernel
theorem dX8_runs_43 : decode cX8_runs 43 = .ok (.istore_n 1, 1) := by decide +kernel
theorem dX8_runs_44 : decode cX8_runs 44 = .ok (.iload_n 1, 1) := by decide +kernel
theorem dX8_runs_45 : decode cX8_runs 45 = .ok (.aload_n 0, 1) := by decide +kernel
theorem dX8_runs_46 : decode cX8_runs 46 = .ok (.getfield 16, 3) := by decide +kernel
theorem dX8_runs_49 : decode cX8_runs 49 = .ok (.if_icmp .ge 25, 3) := by decide +kernel
theorem dX8_runs_52 : decode cX8_runs 52 = .ok (.aload_n 0, 1) := by decide +kernel
theorem dX8_runs_53 : decode cX8_runs 53 = .ok (.iload_n 1, 1) := by decide +kernel
theorem dX8_runs_54 : decode cX8_runs 54 = .ok (.aload_n 0, 1) := by decide +kernel
theorem dX8_runs_55 : decode cX8_runs 55 = .ok (.getfield 56, 3) := by decide +kernel
theorem dX8_runs_58 : decode cX8_runs 58 = .ok (.iload_n 1, 1) := by decide +kernel
theorem dX8_runs_59 : decode cX8_runs 59 = .ok (.iaload, 1) := by decide +kernel
theorem dX8_runs_60 : decode cX8_runs 60 = .ok (.invokevirtual 205, 3) := by decide +kernel
theorem dX8_runs_63 : decode cX8_runs 63 = .ok (.ifCond .ne 5, 3) := by decide +kernel
theorem dX8_runs_66 : decode cX8_runs 66 = .ok (.iconst 0, 1) := by decide +kernel
theorem dX8_runs_67 : decode cX8_runs 67 = .ok (.ireturn, 1) := by decide +kernel
theorem dX8_runs_68 : decode cX8_runs 68 = .ok (.iinc 1 1, 3) := by decide +kernel
theorem dX8_runs_71 : decode cX8_runs 71 = .ok (.goto (-27), 3) := by decide +kernel
theorem dX8_runs_74 : decode cX8_runs 74 = .ok (.aload_n 0, 1) := by decide +kernel
theorem dX8_runs_75 : decode cX8_runs 75 = .ok (.getfield 62, 3) := by decide +kernel
theorem dX8_runs_78 : decode cX8_runs 78 = .ok (.aload_n 0, 1) := by decide +kernel
theorem dX8_runs_79 : decode cX8_runs 79 = .ok (.getfield 16, 3) := by decide +kernel
theorem dX8_runs_82 : decode cX8_runs 82 = .ok (.iaload, 1) := by decide +kernel
theorem dX8_runs_83 : decode cX8_runs 83 = .ok (.aload_n 0, 1) := by decide +kernel
theorem dX8_runs_84 : decode cX8_runs 84 = .ok (.getfield 7, 3) := by decide +kernel
theorem dX8_runs_87 : decode cX8_runs 87 = .ok (.iconst 1, 1) := by decide +kernel
theorem dX8_runs_88 : decode cX8_runs 88 = .ok (.isub, 1) := by decide +kernel
theorem dX8_runs_89 : decode cX8_runs 89 = .ok (.if_icmp .ne 7, 3) := by decide +kernel
theorem dX8_runs_92 : decode cX8_runs 92 = .ok (.iconst 1, 1) := by decide +kernel
theorem dX8_runs_93 : decode cX8_runs 93 = .ok (.goto 4, 3) := by decide +kernel
theorem dX8_runs_96 : decode cX8_runs 96 = .ok (.iconst 0, 1) := by decide +kernel
theorem dX8_runs_97 : decode cX8_runs 97 = .ok (.ireturn, 1) := by decide +kernel
theorem dX8_isTrue_0 : decode cX8_isTrue 0 = .ok (.aload_n 0, 1) := by decide +kernel
theorem dX8_isTrue_1 : decode cX8_isTrue 1 = .ok (.getfield 68, 3) := by decide +kernel
theorem dX8_isTrue_4 : decode cX8_isTrue 4 = .ok (.iload_n 1, 1) := by decide +kernel
theorem dX8_isTrue_5 : decode cX8_isTrue 5 = .ok (.iconst 2, 1) := by decide +kernel
theorem dX8_isTrue_6 : decode cX8_isTrue 6 = .ok (.idiv, 1) := by decide +kernel
theorem dX8_isTrue_7 : decode cX8_isTrue 7 = .ok (.baload, 1) := by decide +kernel
theorem dX8_isTrue_8 : decode cX8_isTrue 8 = .ok (.iload_n 1, 1) := by decide +kernel
theorem dX8_isTrue_9 : decode cX8_isTrue 9 = .ok (.iconst 2, 1) := by decide +kernel
theorem dX8_isTrue_10 : decode cX8_isTrue 10 = .ok (.irem, 1) := by decide +kernel
theorem dX8_isTrue_11 : decode cX8_isTrue 11 = .ok (.ifCond .ne 7, 3) := by decide +kernel
theorem dX8_isTrue_14 : decode cX8_isTrue 14 = .ok (.iconst 1, 1) := by decide +kernel
theorem dX8_isTrue_15 : decode cX8_isTrue 15 = .ok (.goto 4, 3) := by decide +kernel
theorem dX8_isTrue_18 : decode cX8_isTrue 18 = .ok (.iconst 0, 1) := by decide +kernel
theorem dX8_isTrue_19 : decode cX8_isTrue 19 = .ok (.if_icmp .ne 7, 3) := by decide +kernel
theorem dX8_isTrue_22 : decode cX8_isTrue 22 = .ok (.iconst 1, 1) := by decide +kernel
theorem dX8_isTrue_23 : decode cX8_isTrue 23 = .ok (.goto 4, 3) := by decide +kernel
theorem dX8_isTrue_26 : decode cX8_isTrue 26 = .ok (.iconst 0, 1) := by decide +kernel
theorem dX8_isTrue_27 : decode cX8_isTrue 27 = .ok (.ireturn, 1) := by decide +kernel
set_option maxRecDepth 20000 in
theorem ggX8_forward_X8_runs : GoodIn wsX8_forward wsX8_runs := goodIn_r _ [16, 3, 4, 17, 5, 6, 7, 18, 19, 20, 21, 15, 22, 23, 24, 25, 26, 27, 28, 29, 30, 31, 53, 54, 55, 56, 57, 58, 59, 60, 61, 62, 63, 64, 65, 66, 67, 68, 69, 70, 71, 72, 73, 74, 75, 76, 77, 78, 79, 80, 81, 82, 83, 84, 85, 86, 87, 88, 89] (by decide +kernel) (by decide +kernel)
set_option maxRecDepth 20000 in
theorem gX8_forward_X8_runs : GoodIn wsX8_forward (wsV RX8 208 RX8 yX8_runs wsX8_runs) := goodIn_app (goodIn_of _ (by decide +kernel)) ggX8_forward_X8_runs
set_option maxRecDepth 20000 in
theorem ggX8_forward_X8_c : GoodIn wsX8_forward wsX8_c := goodIn_r _ [35, 3, 36, 53, 54, 55, 56, 57, 58, 59, 60, 61, 62, 63, 64, 65, 66, 67, 68, 69, 70, 71, 72, 73, 74, 75, 76, 77, 78, 79, 80, 81, 82, 83, 84, 85, 86, 87, 88, 89] (by decide +kernel) (by decide +kernel)
set_option maxRecDepth 20000 in
theorem gX8_forward_X8_c : GoodIn wsX8_forward (wsV RX8 102 RX8 yX8_c wsX8_c) := goodIn_app (goodIn_of _ (by decide +kernel)) ggX8_forward_X8_c
set_option maxRecDepth 20000 in
theorem ggX8_forward_X8_h : GoodIn wsX8_forward wsX8_h := goodIn_r _ [40, 3, 32, 33, 34, 15, 35, 36, 53, 54, 55, 56, 57, 58, 59, 60, 61, 62, 63, 64, 65, 66, 67, 68, 69, 70, 71, 72, 73, 74, 75, 76, 77, 78, 79, 80, 81, 82, 83, 84, 85, 86, 87, 88, 89] (by decide +kernel) (by decide +kernel)
set_option maxRecDepth 20000 in
theorem gX8_forward_X8_h : GoodIn wsX8_forward (wsV RX8 106 RX8 yX8_h wsX8_h) := goodIn_app (goodIn_of _ (by decide +kernel)) ggX8_forward_X8_h
set_option maxRecDepth 20000 in
theorem ggX8_forward_X8_q : GoodIn wsX8_forward wsX8_q := goodIn_r _ [44, 3, 18, 37, 38, 39, 15, 40, 32, 33, 34, 35, 36, 53, 54, 55, 56, 57, 58, 59, 60, 61, 62, 63, 64, 65, 66, 67, 68, 69, 70, 71, 72, 73, 74, 75, 76, 77, 78, 79, 80, 81, 82, 83, 84, 85, 86, 87, 88, 89] (by decide +kernel) (by decide +kernel)
set_option maxRecDepth 20000 in
theorem gX8_forward_X8_q : GoodIn wsX8_forward (wsV RX8 110 RX8 yX8_q wsX8_q) := goodIn_app (goodIn_of _ (by decide +kernel)) ggX8_forward_X8_q
set_option maxRecDepth 20000 in
theorem ggX8_forward_X8_k : GoodIn wsX8_forward wsX8_k := goodIn_r _ [48, 3, 23, 41, 42, 43, 15, 44, 18, 37, 38, 39, 40, 32, 33, 34, 35, 36, 53, 54, 55, 56, 57, 58, 59, 60, 61, 62, 63, 64, 65, 66, 67, 68, 69, 70, 71, 72, 73, 74, 75, 76, 77, 78, 79, 80, 81, 82, 83, 84, 85, 86, 87, 88, 89] (by decide +kernel) (by decide +kernel)
set_option maxRecDepth 20000 in
theorem gX8_forward_X8_k : GoodIn wsX8_forward (wsV RX8 136 RX8 yX8_k wsX8_k) := goodIn_app (goodIn_of _ (by decide +kernel)) ggX8_forward_X8_k
set_option maxRecDepth 20000 in
theorem ggX8_forward_X8_isTrue : GoodIn wsX8_forward wsX8_isTrue := goodIn_r _ [52, 2, 53, 54, 55, 56, 57, 58, 59, 60, 61, 62, 63, 64, 65, 66, 67, 68, 69, 70, 71, 72, 73, 74, 75, 76, 77, 78, 79, 80, 81, 82, 83, 84, 85, 86, 87, 88, 89] (by decide +kernel) (by decide +kernel)
set_option maxRecDepth 20000 in
theorem gX8_forward_X8_isTrue : GoodIn wsX8_forward (wsV RX8 212 RX8 yX8_isTrue wsX8_isTrue) := goodIn_app (goodIn_of _ (by decide +kernel)) ggX8_forward_X8_isTrue
theorem dX8_forward_0 : decode cX8_forward 0 = .ok (.aload_n 0, 1) := by decide +kernel
theorem dX8_forward_1 : decode cX8_forward 1 = .ok (.invokevirtual 208, 3) := by decide +kernel
theorem dX8_forward_4 : decode cX8_forward 4 = .ok (.istore_n 1, 1) := by decide +kernel
theorem dX8_forward_5 : decode cX8_forward 5 = .ok (.iconst 0, 1) := by decide +kernel
theorem dX8_forward_6 : decode cX8_forward 6 = .ok (.istore_n 2, 1) := by decide +kernel
theorem dX8_forward_7 : decode cX8_forward 7 = .ok (.iload_n 2, 1) := by decide +kernel
theorem dX8_forward_8 : decode cX8_forward 8 = .ok (.aload_n 0, 1) := by decide +kernel
theorem dX8_forward_9 : decode cX8_forward 9 = .ok (.getfield 158, 3) := by decide +kernel
theorem dX8_forward_12 : decode cX8_forward 12 = .ok (.if_icmp .ge 16, 3) := by decide +kernel
theorem dX8_forward_15 : decode cX8_forward 15 = .ok (.aload_n 0, 1) := by decide +kernel
theorem dX8_forward_16 : decode cX8_forward 16 = .ok (.getfield 68, 3) := by decide +kernel
theorem dX8_forward_19 : decode cX8_forward 19 = .ok (.iload_n 2, 1) := by decide +kernel
theorem dX8_forward_20 : decode cX8_forward 20 = .ok (.iconst 0, 1) := by decide +kernel
theorem dX8_forward_21 : decode cX8_forward 21 = .ok (.bastore, 1) := by decide +kernel
theorem dX8_forward_22 : decode cX8_forward 22 = .ok (.iinc 2 1, 3) := by decide +kernel
theorem dX8_forward_25 : decode cX8_forward 25 = .ok (.goto (-18), 3) := by decide +kernel
theorem dX8_forward_28 : decode cX8_forward 28 = .ok (.iconst 0, 1) := by decide +kernel
theorem dX8_forward_29 : decode cX8_forward 29 = .ok (.istore_n 2, 1) := by decide +kernel
theorem dX8_forward_30 : decode cX8_forward 30 = .ok (.iload_n 2, 1) := by decide +kernel
theorem dX8_forward_31 : decode cX8_forward 31 = .ok (.aload_n 0, 1) := by decide +kernel
theorem dX8_forward_32 : decode cX8_forward 32 = .ok (.getfield 16, 3) := by decide +kernel
theorem dX8_forward_35 : decode cX8_forward 35 = .ok (.if_icmp .gt 85, 3) := by decide +kernel
theorem dX8_forward_38 : decode cX8_forward 38 = .ok (.iload_n 1, 1) := by decide +kernel
theorem dX8_forward_39 : decode cX8_forward 39 = .ok (.ifCond .eq 81, 3) := by decide +kernel
theorem dX8_forward_42 : decode cX8_forward 42 = .ok (.iconst 0, 1) := by decide +kernel
theorem dX8_forward_43 : decode cX8_forward 43 = .ok (.istore_n 3, 1) := by decide +kernel
theorem dX8_forward_44 : decode cX8_forward 44 = .ok (.iload_n 3, 1) := by decide +kernel
theorem dX8_forward_45 : decode cX8_forward 45 = .ok (.aload_n 0, 1) := by decide +kernel
theorem dX8_forward_46 : decode cX8_forward 46 = .ok (.getfield 16, 3) := by decide +kernel
theorem dX8_forward_49 : decode cX8_forward 49 = .ok (.if_icmp .gt 31, 3) := by decide +kernel
theorem dX8_forward_52 : decode cX8_forward 52 = .ok (.aload_n 0, 1) := by decide +kernel
theorem dX8_forward_53 : decode cX8_forward 53 = .ok (.getfield 68, 3) := by decide +kernel
theorem dX8_forward_56 : decode cX8_forward 56 = .ok (.aload_n 0, 1) := by decide +kernel
theorem dX8_forward_57 : decode cX8_forward 57 = .ok (.iload_n 2, 1) := by decide +kernel
theorem dX8_forward_58 : decode cX8_forward 58 = .ok (.iload_n 3, 1) := by decide +kernel
theorem dX8_forward_59 : decode cX8_forward 59 = .ok (.aload_n 0, 1) := by decide +kernel
theorem dX8_forward_60 : decode cX8_forward 60 = .ok (.getfield 65, 3) := by decide +kernel
theorem dX8_forward_63 : decode cX8_forward 63 = .ok (.iconst 4, 1) := by decide +kernel
theorem dX8_forward_64 : decode cX8_forward 64 = .ok (.iload_n 2, 1) := by decide +kernel
theorem dX8_forward_65 : decode cX8_forward 65 = .ok (.imul, 1) := by decide +kernel
theorem dX8_forward_66 : decode cX8_forward 66 = .ok (.iload_n 3, 1) := by decide +kernel
theorem dX8_forward_67 : decode cX8_forward 67 = .ok (.iadd, 1) := by decide +kernel
theorem dX8_forward_68 : decode cX8_forward 68 = .ok (.iaload, 1) := by decide +kernel
theorem dX8_forward_69 : decode cX8_forward 69 = .ok (.invokevirtual 102, 3) := by decide +kernel
theorem dX8_forward_72 : decode cX8_forward 72 = .ok (.iconst 1, 1) := by decide +kernel
theorem dX8_forward_73 : decode cX8_forward 73 = .ok (.bastore, 1) := by decide +kernel
theorem dX8_forward_74 : decode cX8_forward 74 = .ok (.iinc 3 1, 3) := by decide +kernel
theorem dX8_forward_77 : decode cX8_forward 77 = .ok (.goto (-33), 3) := by decide +kernel
theorem dX8_forward_80 : decode cX8_forward 80 = .ok (.aload_n 0, 1) := by decide +kernel
theorem dX8_forward_81 : decode cX8_forward 81 = .ok (.getfield 68, 3) := by decide +kernel
theorem dX8_forward_84 : decode cX8_forward 84 = .ok (.aload_n 0, 1) := by decide +kernel
theorem dX8_forward_85 : decode cX8_forward 85 = .ok (.iload_n 2, 1) := by decide +kernel
theorem dX8_forward_86 : decode cX8_forward 86 = .ok (.aload_n 0, 1) := by decide +kernel
theorem dX8_forward_87 : decode cX8_forward 87 = .ok (.getfield 59, 3) := by decide +kernel
theorem dX8_forward_90 : decode cX8_forward 90 = .ok (.iload_n 2, 1) := by decide +kernel
theorem dX8_forward_91 : decode cX8_forward 91 = .ok (.iaload, 1) := by decide +kernel
theorem dX8_forward_92 : decode cX8_forward 92 = .ok (.invokevirtual 106, 3) := by decide +kernel
theorem dX8_forward_95 : decode cX8_forward 95 = .ok (.iconst 1, 1) := by decide +kernel
theorem dX8_forward_96 : decode cX8_forward 96 = .ok (.bastore, 1) := by decide +kernel
theorem dX8_forward_97 : decode cX8_forward 97 = .ok (.aload_n 0, 1) := by decide +kernel
theorem dX8_forward_98 : decode cX8_forward 98 = .ok (.getfield 68, 3) := by decide +kernel
theorem dX8_forward_101 : decode cX8_forward 101 = .ok (.aload_n 0, 1) := by decide +kernel
theorem dX8_forward_102 : decode cX8_forward 102 = .ok (.iload_n 2, 1) := by decide +kernel
theorem dX8_forward_103 : decode cX8_forward 103 = .ok (.aload_n 0, 1) := by decide +kernel
theorem dX8_forward_104 : decode cX8_forward 104 = .ok (.getfield 62, 3) := by decide +kernel
theorem dX8_forward_107 : decode cX8_forward 107 = .ok (.iload_n 2, 1) := by decide +kernel
theorem dX8_forward_108 : decode cX8_forward 108 = .ok (.iaload, 1) := by decide +kernel
theorem dX8_forward_109 : decode cX8_forward 109 = .ok (.invokevirtual 110, 3) := by decide +kernel
theorem dX8_forward_112 : decode cX8_forward 112 = .ok (.iconst 1, 1) := by decide +kernel
theorem dX8_forward_113 : decode cX8_forward 113 = .ok (.bastore, 1) := by decide +kernel
theorem dX8_forward_114 : decode cX8_forward 114 = .ok (.iinc 2 1, 3) := by decide +kernel
theorem dX8_forward_117 : decode cX8_forward 117 = .ok (.goto (-87), 3) := by decide +kernel
theorem dX8_forward_120 : decode cX8_forward 120 = .ok (.iconst 0, 1) := by decide +kernel
theorem dX8_forward_121 : decode cX8_forward 121 = .ok (.istore_n 2, 1) := by decide +kernel
theorem dX8_forward_122 : decode cX8_forward 122 = .ok (.iload_n 2, 1) := by decide +kernel
theorem dX8_forward_123 : decode cX8_forward 123 = .ok (.aload_n 0, 1) := by decide +kernel
theorem dX8_forward_124 : decode cX8_forward 124 = .ok (.getfield 16, 3) := by decide +kernel
theorem dX8_forward_127 : decode cX8_forward 127 = .ok (.if_icmp .ge 26, 3) := by decide +kernel
theorem dX8_forward_130 : decode cX8_forward 130 = .ok (.aload_n 0, 1) := by decide +kernel
theorem dX8_forward_131 : decode cX8_forward 131 = .ok (.getfield 68, 3) := by decide +kernel
theorem dX8_forward_134 : decode cX8_forward 134 = .ok (.aload_n 0, 1) := by decide +kernel
theorem dX8_forward_135 : decode cX8_forward 135 = .ok (.iload_n 2, 1) := by decide +kernel
theorem dX8_forward_136 : decode cX8_forward 136 = .ok (.aload_n 0, 1) := by decide +kernel
theorem dX8_forward_137 : decode cX8_forward 137 = .ok (.getfield 56, 3) := by decide +kernel
theorem dX8_forward_140 : decode cX8_forward 140 = .ok (.iload_n 2, 1) := by decide +kernel
theorem dX8_forward_141 : decode cX8_forward 141 = .ok (.iaload, 1) := by decide +kernel
theorem dX8_forward_142 : decode cX8_forward 142 = .ok (.invokevirtual 136, 3) := by decide +kernel
theorem dX8_forward_145 : decode cX8_forward 145 = .ok (.iconst 1, 1) := by decide +kernel
theorem dX8_forward_146 : decode cX8_forward 146 = .ok (.bastore, 1) := by decide +kernel
theorem dX8_forward_147 : decode cX8_forward 147 = .ok (.iinc 2 1, 3) := by decide +kernel
theorem dX8_forward_150 : decode cX8_forward 150 = .ok (.goto (-28), 3) := by decide +kernel
theorem dX8_forward_153 : decode cX8_forward 153 = .ok (.aload_n 0, 1) := by decide +kernel
theorem dX8_forward_154 : decode cX8_forward 154 = .ok (.getfield 176, 3) := by decide +kernel
theorem dX8_forward_157 : decode cX8_forward 157 = .ok (.istore_n 2, 1) := by decide +kernel
theorem dX8_forward_158 : decode cX8_forward 158 = .ok (.iconst 0, 1) := by decide +kernel
theorem dX8_forward_159 : decode cX8_forward 159 = .ok (.istore_n 3, 1) := by decide +kernel
theorem dX8_forward_160 : decode cX8_forward 160 = .ok (.iload_n 3, 1) := by decide +kernel
theorem dX8_forward_161 : decode cX8_forward 161 = .ok (.aload_n 0, 1) := by decide +kernel
theorem dX8_forward_162 : decode cX8_forward 162 = .ok (.getfield 116, 3) := by decide +kernel
theorem dX8_forward_165 : decode cX8_forward 165 = .ok (.if_icmp .ge 109, 3) := by decide +kernel
theorem dX8_forward_168 : decode cX8_forward 168 = .ok (.aload_n 0, 1) := by decide +kernel
theorem dX8_forward_169 : decode cX8_forward 169 = .ok (.aload_n 0, 1) := by decide +kernel
theorem dX8_forward_170 : decode cX8_forward 170 = .ok (.getfield 41, 3) := by decide +kernel
theorem dX8_forward_173 : decode cX8_forward 173 = .ok (.aload_n 0, 1) := by decide +kernel
theorem dX8_forward_174 : decode cX8_forward 174 = .ok (.getfield 38, 3) := by decide +kernel
theorem dX8_forward_177 : decode cX8_forward 177 = .ok (.iload_n 3, 1) := by decide +kernel
theorem dX8_forward_178 : decode cX8_forward 178 = .ok (.iaload, 1) := by decide +kernel
theorem dX8_forward_179 : decode cX8_forward 179 = .ok (.iaload, 1) := by decide +kernel
theorem dX8_forward_180 : decode cX8_forward 180 = .ok (.invokevirtual 212, 3) := by decide +kernel
theorem dX8_forward_183 : decode cX8_forward 183 = .ok (.ifCond .ne 7, 3) := by decide +kernel
theorem dX8_forward_186 : decode cX8_forward 186 = .ok (.iconst 1, 1) := by decide +kernel
theorem dX8_forward_187 : decode cX8_forward 187 = .ok (.goto 4, 3) := by decide +kernel
theorem dX8_forward_190 : decode cX8_forward 190 = .ok (.iconst 0, 1) := by decide +kernel
theorem dX8_forward_191 : decode cX8_forward 191 = .ok (.istore 4, 2) := by decide +kernel
theorem dX8_forward_193 : decode cX8_forward 193 = .ok (.iconst 1, 1) := by decide +kernel
theorem dX8_forward_194 : decode cX8_forward 194 = .ok (.istore 5, 2) := by decide +kernel
theorem dX8_forward_196 : decode cX8_forward 196 = .ok (.iload 5, 2) := by decide +kernel
theorem dX8_forward_198 : decode cX8_forward 198 = .ok (.aload_n 0, 1) := by decide +kernel
theorem dX8_forward_199 : decode cX8_forward 199 = .ok (.getfield 38, 3) := by decide +kernel
theorem dX8_forward_202 : decode cX8_forward 202 = .ok (.iload_n 3, 1) := by decide +kernel
theorem dX8_forward_203 : decode cX8_forward 203 = .ok (.iconst 1, 1) := by decide +kernel
theorem dX8_forward_204 : decode cX8_forward 204 = .ok (.iadd, 1) := by decide +kernel
theorem dX8_forward_205 : decode cX8_forward 205 = .ok (.iaload, 1) := by decide +kernel
theorem dX8_forward_206 : decode cX8_forward 206 = .ok (.aload_n 0, 1) := by decide +kernel
theorem dX8_forward_207 : decode cX8_forward 207 = .ok (.getfield 38, 3) := by decide +kernel
theorem dX8_forward_210 : decode cX8_forward 210 = .ok (.iload_n 3, 1) := by decide +kernel
theorem dX8_forward_211 : decode cX8_forward 211 = .ok (.iaload, 1) := by decide +kernel
theorem dX8_forward_212 : decode cX8_forward 212 = .ok (.isub, 1) := by decide +kernel
theorem dX8_forward_213 : decode cX8_forward 213 = .ok (.iconst 2, 1) := by decide +kernel
theorem dX8_forward_214 : decode cX8_forward 214 = .ok (.isub, 1) := by decide +kernel
theorem dX8_forward_215 : decode cX8_forward 215 = .ok (.if_icmp .ge 53, 3) := by decide +kernel
theorem dX8_forward_218 : decode cX8_forward 218 = .ok (.iload 4, 2) := by decide +kernel
theorem dX8_forward_220 : decode cX8_forward 220 = .ok (.ifCond .eq 28, 3) := by decide +kernel
theorem dX8_forward_223 : decode cX8_forward 223 = .ok (.aload_n 0, 1) := by decide +kernel
theorem dX8_forward_224 : decode cX8_forward 224 = .ok (.aload_n 0, 1) := by decide +kernel
theorem dX8_forward_225 : decode cX8_forward 225 = .ok (.getfield 41, 3) := by decide +kernel
theorem dX8_forward_228 : decode cX8_forward 228 = .ok (.aload_n 0, 1) := by decide +kernel
theorem dX8_forward_229 : decode cX8_forward 229 = .ok (.getfield 38, 3) := by decide +kernel
theorem dX8_forward_232 : decode cX8_forward 232 = .ok (.iload_n 3, 1) := by decide +kernel
theorem dX8_forward_233 : decode cX8_forward 233 = .ok (.iaload, 1) := by decide +kernel
theorem dX8_forward_234 : decode cX8_forward 234 = .ok (.iload 5, 2) := by decide +kernel
theorem dX8_forward_236 : decode cX8_forward 236 = .ok (.iadd, 1) := by decide +kernel
theorem dX8_forward_237 : decode cX8_forward 237 = .ok (.iaload, 1) := by decide +kernel
theorem dX8_forward_238 : decode cX8_forward 238 = .ok (.invokevirtual 212, 3) := by decide +kernel
theorem dX8_forward_241 : decode cX8_forward 241 = .ok (.ifCond .ne 7, 3) := by decide +kernel
theorem dX8_forward_244 : decode cX8_forward 244 = .ok (.iconst 1, 1) := by decide +kernel
theorem dX8_forward_245 : decode cX8_forward 245 = .ok (.goto 4, 3) := by decide +kernel
theorem dX8_forward_248 : decode cX8_forward 248 = .ok (.iconst 0, 1) := by decide +kernel
theorem dX8_forward_249 : decode cX8_forward 249 = .ok (.istore 4, 2) := by decide +kernel
theorem dX8_forward_251 : decode cX8_forward 251 = .ok (.aload_n 0, 1) := by decide +kernel
theorem dX8_forward_252 : decode cX8_forward 252 = .ok (.getfield 68, 3) := by decide +kernel
theorem dX8_forward_255 : decode cX8_forward 255 = .ok (.iload_n 2, 1) := by decide +kernel
theorem dX8_forward_256 : decode cX8_forward 256 = .ok (.iload 4, 2) := by decide +kernel
theorem dX8_forward_258 : decode cX8_forward 258 = .ok (.bastore, 1) := by decide +kernel
theorem dX8_forward_259 : decode cX8_forward 259 = .ok (.iinc 2 1, 3) := by decide +kernel
theorem dX8_forward_262 : decode cX8_forward 262 = .ok (.iinc 5 1, 3) := by decide +kernel
theorem dX8_forward_265 : decode cX8_forward 265 = .ok (.goto (-69), 3) := by decide +kernel
theorem dX8_forward_268 : decode cX8_forward 268 = .ok (.iinc 3 1, 3) := by decide +kernel
theorem dX8_forward_271 : decode cX8_forward 271 = .ok (.goto (-111), 3) := by decide +kernel
theorem dX8_forward_274 : decode cX8_forward 274 = .ok (.return_, 1) := by decide +kernel
set_option maxRecDepth 20000 in
theorem ggX8_isIn_X8_isTrue : GoodIn wsX8_isIn wsX8_isTrue := goodIn_r _ [7, 8, 9, 10, 11, 12, 13, 14, 15, 16, 17, 18, 19, 20, 21, 22, 23, 24, 25, 26, 27, 28, 29, 30, 31, 32, 33, 34, 35, 36, 37, 38, 39, 40, 41, 42, 43, 44, 45] (by decide +kernel) (by decide +kernel)
set_option maxRecDepth 20000 in
theorem gX8_isIn_X8_isTrue : GoodIn wsX8_isIn (wsV RX8 212 RX8 yX8_isTrue wsX8_isTrue) := goodIn_app (goodIn_of _ (by decide +kernel)) ggX8_isIn_X8_isTrue
theorem dX8_isIn_0 : decode cX8_isIn 0 = .ok (.iload_n 1, 1) := by decide +kernel
theorem dX8_isIn_1 : decode cX8_isIn 1 = .ok (.iconst 2, 1) := by decide +kernel
theorem dX8_isIn_2 : decode cX8_isIn 2 = .ok (.aload_n 0, 1) := by decide +kernel
theorem dX8_isIn_3 : decode cX8_isIn 3 = .ok (.getfield 158, 3) := by decide +kernel
theorem dX8_isIn_6 : decode cX8_isIn 6 = .ok (.imul, 1) := by decide +kernel
theorem dX8_isIn_7 : decode cX8_isIn 7 = .ok (.if_icmp .ge 9, 3) := by decide +kernel
theorem dX8_isIn_10 : decode cX8_isIn 10 = .ok (.aload_n 0, 1) := by decide +kernel
theorem dX8_isIn_11 : decode cX8_isIn 11 = .ok (.iload_n 1, 1) := by decide +kernel
theorem dX8_isIn_12 : decode cX8_isIn 12 = .ok (.invokevirtual 212, 3) := by decide +kernel
theorem dX8_isIn_15 : decode cX8_isIn 15 = .ok (.ireturn, 1) := by decide +kernel
theorem dX8_isIn_16 : decode cX8_isIn 16 = .ok (.iload_n 1, 1) := by decide +kernel
theorem dX8_isIn_17 : decode cX8_isIn 17 = .ok (.iconst 2, 1) := by decide +kernel
theorem dX8_isIn_18 : decode cX8_isIn 18 = .ok (.aload_n 0, 1) := by decide +kernel
theorem dX8_isIn_19 : decode cX8_isIn 19 = .ok (.getfield 158, 3) := by decide +kernel
theorem dX8_isIn_22 : decode cX8_isIn 22 = .ok (.imul, 1) := by decide +kernel
theorem dX8_isIn_23 : decode cX8_isIn 23 = .ok (.isub, 1) := by decide +kernel
theorem dX8_isIn_24 : decode cX8_isIn 24 = .ok (.iconst 3, 1) := by decide +kernel
theorem dX8_isIn_25 : decode cX8_isIn 25 = .ok (.idiv, 1) := by decide +kernel
theorem dX8_isIn_26 : decode cX8_isIn 26 = .ok (.istore_n 2, 1) := by decide +kernel
theorem dX8_isIn_27 : decode cX8_isIn 27 = .ok (.iload_n 1, 1) := by decide +kernel
theorem dX8_isIn_28 : decode cX8_isIn 28 = .ok (.iconst 2, 1) := by decide +kernel
theorem dX8_isIn_29 : decode cX8_isIn 29 = .ok (.aload_n 0, 1) := by decide +kernel
theorem dX8_isIn_30 : decode cX8_isIn 30 = .ok (.getfield 158, 3) := by decide +kernel
theorem dX8_isIn_33 : decode cX8_isIn 33 = .ok (.imul, 1) := by decide +kernel
theorem dX8_isIn_34 : decode cX8_isIn 34 = .ok (.isub, 1) := by decide +kernel
theorem dX8_isIn_35 : decode cX8_isIn 35 = .ok (.iconst 3, 1) := by decide +kernel
theorem dX8_isIn_36 : decode cX8_isIn 36 = .ok (.irem, 1) := by decide +kernel
theorem dX8_isIn_37 : decode cX8_isIn 37 = .ok (.istore_n 3, 1) := by decide +kernel
theorem dX8_isIn_38 : decode cX8_isIn 38 = .ok (.iconst 0, 1) := by decide +kernel
theorem dX8_isIn_39 : decode cX8_isIn 39 = .ok (.istore 4, 2) := by decide +kernel
theorem dX8_isIn_41 : decode cX8_isIn 41 = .ok (.iconst 0, 1) := by decide +kernel
theorem dX8_isIn_42 : decode cX8_isIn 42 = .ok (.istore 5, 2) := by decide +kernel
theorem dX8_isIn_44 : decode cX8_isIn 44 = .ok (.iload 5, 2) := by decide +kernel
theorem dX8_isIn_46 : decode cX8_isIn 46 = .ok (.iload_n 3, 1) := by decide +kernel
theorem dX8_isIn_47 : decode cX8_isIn 47 = .ok (.if_icmp .ge 39, 3) := by decide +kernel
theorem dX8_isIn_50 : decode cX8_isIn 50 = .ok (.iload 4, 2) := by decide +kernel
theorem dX8_isIn_52 : decode cX8_isIn 52 = .ok (.ifCond .ne 21, 3) := by decide +kernel
theorem dX8_isIn_55 : decode cX8_isIn 55 = .ok (.aload_n 0, 1) := by decide +kernel
theorem dX8_isIn_56 : decode cX8_isIn 56 = .ok (.aload_n 0, 1) := by decide +kernel
theorem dX8_isIn_57 : decode cX8_isIn 57 = .ok (.getfield 44, 3) := by decide +kernel
theorem dX8_isIn_60 : decode cX8_isIn 60 = .ok (.iconst 3, 1) := by decide +kernel
theorem dX8_isIn_61 : decode cX8_isIn 61 = .ok (.iload_n 2, 1) := by decide +kernel
theorem dX8_isIn_62 : decode cX8_isIn 62 = .ok (.imul, 1) := by decide +kernel
theorem dX8_isIn_63 : decode cX8_isIn 63 = .ok (.iload 5, 2) := by decide +kernel
theorem dX8_isIn_65 : decode cX8_isIn 65 = .ok (.iadd, 1) := by decide +kernel
theorem dX8_isIn_66 : decode cX8_isIn 66 = .ok (.iaload, 1) := by decide +kernel
theorem dX8_isIn_67 : decode cX8_isIn 67 = .ok (.invokevirtual 212, 3) := by decide +kernel
theorem dX8_isIn_70 : decode cX8_isIn 70 = .ok (.ifCond .eq 7, 3) := by decide +kernel
theorem dX8_isIn_73 : decode cX8_isIn 73 = .ok (.iconst 1, 1) := by decide +kernel
theorem dX8_isIn_74 : decode cX8_isIn 74 = .ok (.goto 4, 3) := by decide +kernel
theorem dX8_isIn_77 : decode cX8_isIn 77 = .ok (.iconst 0, 1) := by decide +kernel
theorem dX8_isIn_78 : decode cX8_isIn 78 = .ok (.istore 4, 2) := by decide +kernel
theorem dX8_isIn_80 : decode cX8_isIn 80 = .ok (.iinc 5 1, 3) := by decide +kernel
theorem dX8_isIn_83 : decode cX8_isIn 83 = .ok (.goto (-39), 3) := by decide +kernel
theorem dX8_isIn_86 : decode cX8_isIn 86 = .ok (.iload 4, 2) := by decide +kernel
theorem dX8_isIn_88 : decode cX8_isIn 88 = .ok (.ifCond .ne 20, 3) := by decide +kernel
theorem dX8_isIn_91 : decode cX8_isIn 91 = .ok (.aload_n 0, 1) := by decide +kernel
theorem dX8_isIn_92 : decode cX8_isIn 92 = .ok (.aload_n 0, 1) := by decide +kernel
theorem dX8_isIn_93 : decode cX8_isIn 93 = .ok (.getfield 44, 3) := by decide +kernel
theorem dX8_isIn_96 : decode cX8_isIn 96 = .ok (.iconst 3, 1) := by decide +kernel
theorem dX8_isIn_97 : decode cX8_isIn 97 = .ok (.iload_n 2, 1) := by decide +kernel
theorem dX8_isIn_98 : decode cX8_isIn 98 = .ok (.imul, 1) := by decide +kernel
theorem dX8_isIn_99 : decode cX8_isIn 99 = .ok (.iload_n 3, 1) := by decide +kernel
theorem dX8_isIn_100 : decode cX8_isIn 100 = .ok (.iadd, 1) := by decide +kernel
theorem dX8_isIn_101 : decode cX8_isIn 101 = .ok (.iaload, 1) := by decide +kernel
theorem dX8_isIn_102 : decode cX8_isIn 102 = .ok (.invokevirtual 212, 3) := by decide +kernel
theorem dX8_isIn_105 : decode cX8_isIn 105 = .ok (.ifCond .ne 7, 3) := by decide +kernel
theorem dX8_isIn_108 : decode cX8_isIn 108 = .ok (.iconst 1, 1) := by decide +kernel
theorem dX8_isIn_109 : decode cX8_isIn 109 = .ok (.goto 4, 3) := by decide +kernel
theorem dX8_isIn_112 : decode cX8_isIn 112 = .ok (.iconst 0, 1) := by decide +kernel
theorem dX8_isIn_113 : decode cX8_isIn 113 = .ok (.ireturn, 1) := by decide +kernel
theorem dX8_visit_0 : decode cX8_visit 0 = .ok (.iload_n 2, 1) := by decide +kernel
theorem dX8_visit_1 : decode cX8_visit 1 = .ok (.istore 4, 2) := by decide +kernel
theorem dX8_visit_3 : decode cX8_visit 3 = .ok (.iload 4, 2) := by decide +kernel
theorem dX8_visit_5 : decode cX8_visit 5 = .ok (.iload_n 3, 1) := by decide +kernel
theorem dX8_visit_6 : decode cX8_visit 6 = .ok (.if_icmp .gt 35, 3) := by decide +kernel
theorem dX8_visit_9 : decode cX8_visit 9 = .ok (.aload_n 0, 1) := by decide +kernel
theorem dX8_visit_10 : decode cX8_visit 10 = .ok (.getfield 73, 3) := by decide +kernel
theorem dX8_visit_13 : decode cX8_visit 13 = .ok (.aload_n 0, 1) := by decide +kernel
theorem dX8_visit_14 : decode cX8_visit 14 = .ok (.getfield 215, 3) := by decide +kernel
theorem dX8_visit_17 : decode cX8_visit 17 = .ok (.bipush 6, 2) := by decide +kernel
theorem dX8_visit_19 : decode cX8_visit 19 = .ok (.iload_n 1, 1) := by decide +kernel
theorem dX8_visit_20 : decode cX8_visit 20 = .ok (.imul, 1) := by decide +kernel
theorem dX8_visit_21 : decode cX8_visit 21 = .ok (.iload 4, 2) := by decide +kernel
theorem dX8_visit_23 : decode cX8_visit 23 = .ok (.iadd, 1) := by decide +kernel
theorem dX8_visit_24 : decode cX8_visit 24 = .ok (.iastore, 1) := by decide +kernel
theorem dX8_visit_25 : decode cX8_visit 25 = .ok (.aload_n 0, 1) := by decide +kernel
theorem dX8_visit_26 : decode cX8_visit 26 = .ok (.dup, 1) := by decide +kernel
theorem dX8_visit_27 : decode cX8_visit 27 = .ok (.getfield 215, 3) := by decide +kernel
theorem dX8_visit_30 : decode cX8_visit 30 = .ok (.iconst 1, 1) := by decide +kernel
theorem dX8_visit_31 : decode cX8_visit 31 = .ok (.iadd, 1) := by decide +kernel
theorem dX8_visit_32 : decode cX8_visit 32 = .ok (.putfield 215, 3) := by decide +kernel
theorem dX8_visit_35 : decode cX8_visit 35 = .ok (.iinc 4 1, 3) := by decide +kernel
theorem dX8_visit_38 : decode cX8_visit 38 = .ok (.goto (-35), 3) := by decide +kernel
theorem dX8_visit_41 : decode cX8_visit 41 = .ok (.return_, 1) := by decide +kernel
set_option maxRecDepth 20000 in
theorem ggX8_makeTrip_X8_isIn : GoodIn wsX8_makeTrip wsX8_isIn := goodIn_r _ [11, 12, 13, 14, 15, 16, 10, 17, 18, 27, 28, 29, 30, 31, 32, 33, 34, 35, 36, 37, 38, 39, 40, 41, 42, 43, 44, 45, 46, 47, 48, 49, 50, 51, 52, 53, 54, 55, 56, 57, 58, 59, 60, 61, 62, 63] (by decide +kernel) (by decide +kernel)
set_option maxRecDepth 20000 in
theorem gX8_makeTrip_X8_isIn : GoodIn wsX8_makeTrip (wsV RX8 218 RX8 yX8_isIn wsX8_isIn) := goodIn_app (goodIn_of _ (by decide +kernel)) ggX8_makeTrip_X8_isIn
set_option maxRecDepth 20000 in
theorem ggX8_makeTrip_X8_visit : GoodIn wsX8_makeTrip wsX8_visit := goodIn_r _ [22, 4, 1, 27, 28, 29, 30, 31, 32, 33, 34, 35, 36, 37, 38, 39, 40, 41, 42, 43, 44, 45, 46, 47, 48, 49, 50, 51, 52, 53, 54, 55, 56, 57, 58, 59, 60, 61, 62, 63] (by decide +kernel) (by decide +kernel)
set_option maxRecDepth 20000 in
theorem gX8_makeTrip_X8_visit : GoodIn wsX8_makeTrip (wsV RX8 221 RX8 yX8_visit wsX8_visit) := goodIn_app (goodIn_of _ (by decide +kernel)) ggX8_makeTrip_X8_visit
set_option maxRecDepth 20000 in
theorem ggX8_makeTrip_X8_vertexAt : GoodIn wsX8_makeTrip wsX8_vertexAt := goodIn_r _ [26, 12, 13, 27, 28, 29, 30, 31, 32, 33, 34, 35, 36, 37, 38, 39, 40, 41, 42, 43, 44, 45, 46, 47, 48, 49, 50, 51, 52, 53, 54, 55, 56, 57, 58, 59, 60, 61, 62, 63] (by decide +kernel) (by decide +kernel)
set_option maxRecDepth 20000 in
theorem gX8_makeTrip_X8_vertexAt : GoodIn wsX8_makeTrip (wsV RX8 167 RX8 yX8_vertexAt wsX8_vertexAt) := goodIn_app (goodIn_of _ (by decide +kernel)) ggX8_makeTrip_X8_vertexAt
theorem dX8_makeTrip_0 : decode cX8_makeTrip 0 = .ok (.aload_n 0, 1) := by decide +kernel
theorem dX8_makeTrip_1 : decode cX8_makeTrip 1 = .ok (.iconst 0, 1) := by decide +kernel
theorem dX8_makeTrip_2 : decode cX8_makeTrip 2 = .ok (.putfield 215, 3) := by decide +kernel
theorem dX8_makeTrip_5 : decode cX8_makeTrip 5 = .ok (.bipush 12, 2) := by decide +kernel
theorem dX8_makeTrip_7 : decode cX8_makeTrip 7 = .ok (.aload_n 0, 1) := by decide +kernel
theorem dX8_makeTrip_8 : decode cX8_makeTrip 8 = .ok (.getfield 164, 3) := by decide +kernel
theorem dX8_makeTrip_11 : decode cX8_makeTrip 11 = .ok (.imul, 1) := by decide +kernel
theorem dX8_makeTrip_12 : decode cX8_makeTrip 12 = .ok (.istore_n 1, 1) := by decide +kernel
theorem dX8_makeTrip_13 : decode cX8_makeTrip 13 = .ok (.iconst 0, 1) := by decide +kernel
theorem dX8_makeTrip_14 : decode cX8_makeTrip 14 = .ok (.istore_n 2, 1) := by decide +kernel
theorem dX8_makeTrip_15 : decode cX8_makeTrip 15 = .ok (.iload_n 2, 1) := by decide +kernel
theorem dX8_makeTrip_16 : decode cX8_makeTrip 16 = .ok (.aload_n 0, 1) := by decide +kernel
theorem dX8_makeTrip_17 : decode cX8_makeTrip 17 = .ok (.getfield 161, 3) := by decide +kernel
theorem dX8_makeTrip_20 : decode cX8_makeTrip 20 = .ok (.if_icmp .ge 120, 3) := by decide +kernel
theorem dX8_makeTrip_23 : decode cX8_makeTrip 23 = .ok (.aload_n 0, 1) := by decide +kernel
theorem dX8_makeTrip_24 : decode cX8_makeTrip 24 = .ok (.iload_n 2, 1) := by decide +kernel
theorem dX8_makeTrip_25 : decode cX8_makeTrip 25 = .ok (.invokevirtual 218, 3) := by decide +kernel
theorem dX8_makeTrip_28 : decode cX8_makeTrip 28 = .ok (.ifCond .eq 106, 3) := by decide +kernel
theorem dX8_makeTrip_31 : decode cX8_makeTrip 31 = .ok (.aload_n 0, 1) := by decide +kernel
theorem dX8_makeTrip_32 : decode cX8_makeTrip 32 = .ok (.getfield 73, 3) := by decide +kernel
theorem dX8_makeTrip_35 : decode cX8_makeTrip 35 = .ok (.aload_n 0, 1) := by decide +kernel
theorem dX8_makeTrip_36 : decode cX8_makeTrip 36 = .ok (.getfield 215, 3) := by decide +kernel
theorem dX8_makeTrip_39 : decode cX8_makeTrip 39 = .ok (.iload_n 1, 1) := by decide +kernel
theorem dX8_makeTrip_40 : decode cX8_makeTrip 40 = .ok (.iastore, 1) := by decide +kernel
theorem dX8_makeTrip_41 : decode cX8_makeTrip 41 = .ok (.aload_n 0, 1) := by decide +kernel
theorem dX8_makeTrip_42 : decode cX8_makeTrip 42 = .ok (.dup, 1) := by decide +kernel
theorem dX8_makeTrip_43 : decode cX8_makeTrip 43 = .ok (.getfield 215, 3) := by decide +kernel
theorem dX8_makeTrip_46 : decode cX8_makeTrip 46 = .ok (.iconst 1, 1) := by decide +kernel
theorem dX8_makeTrip_47 : decode cX8_makeTrip 47 = .ok (.iadd, 1) := by decide +kernel
theorem dX8_makeTrip_48 : decode cX8_makeTrip 48 = .ok (.putfield 215, 3) := by decide +kernel
theorem dX8_makeTrip_51 : decode cX8_makeTrip 51 = .ok (.iinc 1 1, 3) := by decide +kernel
theorem dX8_makeTrip_54 : decode cX8_makeTrip 54 = .ok (.aload_n 0, 1) := by decide +kernel
theorem dX8_makeTrip_55 : decode cX8_makeTrip 55 = .ok (.getfield 50, 3) := by decide +kernel
theorem dX8_makeTrip_58 : decode cX8_makeTrip 58 = .ok (.iload_n 2, 1) := by decide +kernel
theorem dX8_makeTrip_59 : decode cX8_makeTrip 59 = .ok (.iaload, 1) := by decide +kernel
theorem dX8_makeTrip_60 : decode cX8_makeTrip 60 = .ok (.istore_n 3, 1) := by decide +kernel
theorem dX8_makeTrip_61 : decode cX8_makeTrip 61 = .ok (.iload_n 3, 1) := by decide +kernel
theorem dX8_makeTrip_62 : decode cX8_makeTrip 62 = .ok (.iconst (-1), 1) := by decide +kernel
theorem dX8_makeTrip_63 : decode cX8_makeTrip 63 = .ok (.if_icmp .eq 71, 3) := by decide +kernel
theorem dX8_makeTrip_66 : decode cX8_makeTrip 66 = .ok (.iload_n 3, 1) := by decide +kernel
theorem dX8_makeTrip_67 : decode cX8_makeTrip 67 = .ok (.iconst 2, 1) := by decide +kernel
theorem dX8_makeTrip_68 : decode cX8_makeTrip 68 = .ok (.irem, 1) := by decide +kernel
theorem dX8_makeTrip_69 : decode cX8_makeTrip 69 = .ok (.ifCond .ne 9, 3) := by decide +kernel
theorem dX8_makeTrip_72 : decode cX8_makeTrip 72 = .ok (.iload_n 3, 1) := by decide +kernel
theorem dX8_makeTrip_73 : decode cX8_makeTrip 73 = .ok (.iconst 1, 1) := by decide +kernel
theorem dX8_makeTrip_74 : decode cX8_makeTrip 74 = .ok (.iadd, 1) := by decide +kernel
theorem dX8_makeTrip_75 : decode cX8_makeTrip 75 = .ok (.goto 6, 3) := by decide +kernel
theorem dX8_makeTrip_78 : decode cX8_makeTrip 78 = .ok (.iload_n 3, 1) := by decide +kernel
theorem dX8_makeTrip_79 : decode cX8_makeTrip 79 = .ok (.iconst 1, 1) := by decide +kernel
theorem dX8_makeTrip_80 : decode cX8_makeTrip 80 = .ok (.isub, 1) := by decide +kernel
theorem dX8_makeTrip_81 : decode cX8_makeTrip 81 = .ok (.istore 4, 2) := by decide +kernel
theorem dX8_makeTrip_83 : decode cX8_makeTrip 83 = .ok (.aload_n 0, 1) := by decide +kernel
theorem dX8_makeTrip_84 : decode cX8_makeTrip 84 = .ok (.iload_n 3, 1) := by decide +kernel
theorem dX8_makeTrip_85 : decode cX8_makeTrip 85 = .ok (.iconst 0, 1) := by decide +kernel
theorem dX8_makeTrip_86 : decode cX8_makeTrip 86 = .ok (.iconst 2, 1) := by decide +kernel
theorem dX8_makeTrip_87 : decode cX8_makeTrip 87 = .ok (.invokevirtual 221, 3) := by decide +kernel
theorem dX8_makeTrip_90 : decode cX8_makeTrip 90 = .ok (.aload_n 0, 1) := by decide +kernel
theorem dX8_makeTrip_91 : decode cX8_makeTrip 91 = .ok (.aload_n 0, 1) := by decide +kernel
theorem dX8_makeTrip_92 : decode cX8_makeTrip 92 = .ok (.iload 4, 2) := by decide +kernel
theorem dX8_makeTrip_94 : decode cX8_makeTrip 94 = .ok (.iconst 2, 1) := by decide +kernel
theorem dX8_makeTrip_95 : decode cX8_makeTrip 95 = .ok (.idiv, 1) := by decide +kernel
theorem dX8_makeTrip_96 : decode cX8_makeTrip 96 = .ok (.iload 4, 2) := by decide +kernel
theorem dX8_makeTrip_98 : decode cX8_makeTrip 98 = .ok (.iconst 2, 1) := by decide +kernel
theorem dX8_makeTrip_99 : decode cX8_makeTrip 99 = .ok (.irem, 1) := by decide +kernel
theorem dX8_makeTrip_100 : decode cX8_makeTrip 100 = .ok (.invokevirtual 167, 3) := by decide +kernel
theorem dX8_makeTrip_103 : decode cX8_makeTrip 103 = .ok (.invokevirtual 218, 3) := by decide +kernel
theorem dX8_makeTrip_106 : decode cX8_makeTrip 106 = .ok (.ifCond .ne 11, 3) := by decide +kernel
theorem dX8_makeTrip_109 : decode cX8_makeTrip 109 = .ok (.aload_n 0, 1) := by decide +kernel
theorem dX8_makeTrip_110 : decode cX8_makeTrip 110 = .ok (.iload 4, 2) := by decide +kernel
theorem dX8_makeTrip_112 : decode cX8_makeTrip 112 = .ok (.iconst 0, 1) := by decide +kernel
theorem dX8_makeTrip_113 : decode cX8_makeTrip 113 = .ok (.iconst 5, 1) := by decide +kernel
theorem dX8_makeTrip_114 : decode cX8_makeTrip 114 = .ok (.invokevirtual 221, 3) := by decide +kernel
theorem dX8_makeTrip_117 : decode cX8_makeTrip 117 = .ok (.aload_n 0, 1) := by decide +kernel
theorem dX8_makeTrip_118 : decode cX8_makeTrip 118 = .ok (.iload_n 3, 1) := by decide +kernel
theorem dX8_makeTrip_119 : decode cX8_makeTrip 119 = .ok (.iconst 3, 1) := by decide +kernel
theorem dX8_makeTrip_120 : decode cX8_makeTrip 120 = .ok (.iconst 5, 1) := by decide +kernel
theorem dX8_makeTrip_121 : decode cX8_makeTrip 121 = .ok (.invokevirtual 221, 3) := by decide +kernel
theorem dX8_makeTrip_124 : decode cX8_makeTrip 124 = .ok (.aload_n 0, 1) := by decide +kernel
theorem dX8_makeTrip_125 : decode cX8_makeTrip 125 = .ok (.getfield 47, 3) := by decide +kernel
theorem dX8_makeTrip_128 : decode cX8_makeTrip 128 = .ok (.iload_n 3, 1) := by decide +kernel
theorem dX8_makeTrip_129 : decode cX8_makeTrip 129 = .ok (.iaload, 1) := by decide +kernel
theorem dX8_makeTrip_130 : decode cX8_makeTrip 130 = .ok (.istore_n 3, 1) := by decide +kernel
theorem dX8_makeTrip_131 : decode cX8_makeTrip 131 = .ok (.goto (-70), 3) := by decide +kernel
theorem dX8_makeTrip_134 : decode cX8_makeTrip 134 = .ok (.iinc 2 1, 3) := by decide +kernel
theorem dX8_makeTrip_137 : decode cX8_makeTrip 137 = .ok (.goto (-122), 3) := by decide +kernel
theorem dX8_makeTrip_140 : decode cX8_makeTrip 140 = .ok (.return_, 1) := by decide +kernel
theorem dX8_more_0 : decode cX8_more 0 = .ok (.aload_n 0, 1) := by decide +kernel
theorem dX8_more_1 : decode cX8_more 1 = .ok (.getfield 16, 3) := by decide +kernel
theorem dX8_more_4 : decode cX8_more 4 = .ok (.iconst 1, 1) := by decide +kernel
theorem dX8_more_5 : decode cX8_more 5 = .ok (.isub, 1) := by decide +kernel
theorem dX8_more_6 : decode cX8_more 6 = .ok (.istore_n 1, 1) := by decide +kernel
theorem dX8_more_7 : decode cX8_more 7 = .ok (.iload_n 1, 1) := by decide +kernel
theorem dX8_more_8 : decode cX8_more 8 = .ok (.ifCond .lt 41, 3) := by decide +kernel
theorem dX8_more_11 : decode cX8_more 11 = .ok (.aload_n 0, 1) := by decide +kernel
theorem dX8_more_12 : decode cX8_more 12 = .ok (.getfield 56, 3) := by decide +kernel
theorem dX8_more_15 : decode cX8_more 15 = .ok (.iload_n 1, 1) := by decide +kernel
theorem dX8_more_16 : decode cX8_more 16 = .ok (.dup2, 1) := by decide +kernel
theorem dX8_more_17 : decode cX8_more 17 = .ok (.iaload, 1) := by decide +kernel
theorem dX8_more_18 : decode cX8_more 18 = .ok (.iconst 1, 1) := by decide +kernel
theorem dX8_more_19 : decode cX8_more 19 = .ok (.iadd, 1) := by decide +kernel
theorem dX8_more_20 : decode cX8_more 20 = .ok (.iastore, 1) := by decide +kernel
theorem dX8_more_21 : decode cX8_more 21 = .ok (.aload_n 0, 1) := by decide +kernel
theorem dX8_more_22 : decode cX8_more 22 = .ok (.getfield 56, 3) := by decide +kernel
theorem dX8_more_25 : decode cX8_more 25 = .ok (.iload_n 1, 1) := by decide +kernel
theorem dX8_more_26 : decode cX8_more 26 = .ok (.iaload, 1) := by decide +kernel
theorem dX8_more_27 : decode cX8_more 27 = .ok (.aload_n 0, 1) := by decide +kernel
theorem dX8_more_28 : decode cX8_more 28 = .ok (.getfield 96, 3) := by decide +kernel
theorem dX8_more_31 : decode cX8_more 31 = .ok (.if_icmp .gt 5, 3) := by decide +kernel
theorem dX8_more_34 : decode cX8_more 34 = .ok (.iconst 1, 1) := by decide +kernel
theorem dX8_more_35 : decode cX8_more 35 = .ok (.ireturn, 1) := by decide +kernel
theorem dX8_more_36 : decode cX8_more 36 = .ok (.aload_n 0, 1) := by decide +kernel
theorem dX8_more_37 : decode cX8_more 37 = .ok (.getfield 56, 3) := by decide +kernel
theorem dX8_more_40 : decode cX8_more 40 = .ok (.iload_n 1, 1) := by decide +kernel
theorem dX8_more_41 : decode cX8_more 41 = .ok (.iconst 0, 1) := by decide +kernel
theorem dX8_more_42 : decode cX8_more 42 = .ok (.iastore, 1) := by decide +kernel
theorem dX8_more_43 : decode cX8_more 43 = .ok (.iinc 1 (-1), 3) := by decide +kernel
theorem dX8_more_46 : decode cX8_more 46 = .ok (.goto (-39), 3) := by decide +kernel
theorem dX8_more_49 : decode cX8_more 49 = .ok (.iconst 0, 1) := by decide +kernel
theorem dX8_more_50 : decode cX8_more 50 = .ok (.ireturn, 1) := by decide +kernel
set_option maxRecDepth 20000 in
theorem ggX8_solve_X8_runs : GoodIn wsX8_solve wsX8_runs := goodIn_r _ [11, 3, 12, 13, 14, 15, 4, 16, 17, 18, 19, 10, 20, 21, 22, 23, 24, 25, 26, 27, 28, 29, 88, 89, 90, 91, 92, 93, 94, 95, 96, 97, 98, 99, 100, 101, 102, 103, 104, 105, 106, 107, 108, 109, 110, 111, 112, 113, 114, 115, 116, 117, 118, 119, 120, 121, 122, 123, 124] (by decide +kernel) (by decide +kernel)
set_option maxRecDepth 20000 in
theorem gX8_solve_X8_runs : GoodIn wsX8_solve (wsV RX8 208 RX8 yX8_runs wsX8_runs) := goodIn_app (goodIn_of _ (by decide +kernel)) ggX8_solve_X8_runs
set_option maxRecDepth 20000 in
theorem ggX8_solve_X8_more : GoodIn wsX8_solve wsX8_more := goodIn_r _ [33, 3, 4, 21, 88, 89, 90, 91, 92, 93, 94, 95, 96, 97, 98, 99, 100, 101, 102, 103, 104, 105, 106, 107, 108, 109, 110, 111, 112, 113, 114, 115, 116, 117, 118, 119, 120, 121, 122, 123, 124] (by decide +kernel) (by decide +kernel)
set_option maxRecDepth 20000 in
theorem gX8_solve_X8_more : GoodIn wsX8_solve (wsV RX8 224 RX8 yX8_more wsX8_more) := goodIn_app (goodIn_of _ (by decide +kernel)) ggX8_solve_X8_more
set_option maxRecDepth 20000 in
theorem ggX8_solve_X8_forward : GoodIn wsX8_solve wsX8_forward := goodIn_r _ [37, 38, 39, 3, 12, 14, 15, 4, 40, 41, 42, 43, 7, 8, 9, 10, 11, 13, 16, 17, 18, 19, 20, 21, 22, 23, 24, 25, 26, 27, 28, 29, 44, 45, 46, 47, 48, 49, 50, 51, 52, 53, 54, 55, 56, 57, 58, 59, 60, 61, 62, 63, 64, 88, 89, 90, 91, 92, 93, 94, 95, 96, 97, 98, 99, 100, 101, 102, 103, 104, 105, 106, 107, 108, 109, 110, 111, 112, 113, 114, 115, 116, 117, 118, 119, 120, 121, 122, 123, 124] (by decide +kernel) (by decide +kernel)
set_option maxRecDepth 20000 in
theorem gX8_solve_X8_forward : GoodIn wsX8_solve (wsV RX8 227 RX8 yX8_forward wsX8_forward) := goodIn_app (goodIn_of _ (by decide +kernel)) ggX8_solve_X8_forward
set_option maxRecDepth 20000 in
theorem ggX8_solve_X8_makeTrip : GoodIn wsX8_solve wsX8_makeTrip := goodIn_r _ [68, 69, 70, 71, 72, 73, 74, 75, 76, 77, 10, 78, 38, 79, 61, 62, 63, 64, 39, 80, 81, 82, 83, 84, 85, 86, 87, 88, 89, 90, 91, 92, 93, 94, 95, 96, 97, 98, 99, 100, 101, 102, 103, 104, 105, 106, 107, 108, 109, 110, 111, 112, 113, 114, 115, 116, 117, 118, 119, 120, 121, 122, 123, 124] (by decide +kernel) (by decide +kernel)
set_option maxRecDepth 20000 in
theorem gX8_solve_X8_makeTrip : GoodIn wsX8_solve (wsV RX8 230 RX8 yX8_makeTrip wsX8_makeTrip) := goodIn_app (goodIn_of _ (by decide +kernel)) ggX8_solve_X8_makeTrip
theorem dX8_solve_0 : decode cX8_solve 0 = .ok (.aload_n 0, 1) := by decide +kernel
theorem dX8_solve_1 : decode cX8_solve 1 = .ok (.aload_n 0, 1) := by decide +kernel
theorem dX8_solve_2 : decode cX8_solve 2 = .ok (.getfield 82, 3) := by decide +kernel
theorem dX8_solve_5 : decode cX8_solve 5 = .ok (.ifCond .eq 7, 3) := by decide +kernel
theorem dX8_solve_8 : decode cX8_solve 8 = .ok (.iconst 0, 1) := by decide +kernel
theorem dX8_solve_9 : decode cX8_solve 9 = .ok (.goto 4, 3) := by decide +kernel
theorem dX8_solve_12 : decode cX8_solve 12 = .ok (.iconst 1, 1) := by decide +kernel
theorem dX8_solve_13 : decode cX8_solve 13 = .ok (.putfield 79, 3) := by decide +kernel
theorem dX8_solve_16 : decode cX8_solve 16 = .ok (.aload_n 0, 1) := by decide +kernel
theorem dX8_solve_17 : decode cX8_solve 17 = .ok (.getfield 82, 3) := by decide +kernel
theorem dX8_solve_20 : decode cX8_solve 20 = .ok (.ifCond .ne 5, 3) := by decide +kernel
theorem dX8_solve_23 : decode cX8_solve 23 = .ok (.iconst 0, 1) := by decide +kernel
theorem dX8_solve_24 : decode cX8_solve 24 = .ok (.ireturn, 1) := by decide +kernel
theorem dX8_solve_25 : decode cX8_solve 25 = .ok (.iconst 0, 1) := by decide +kernel
theorem dX8_solve_26 : decode cX8_solve 26 = .ok (.istore_n 1, 1) := by decide +kernel
theorem dX8_solve_27 : decode cX8_solve 27 = .ok (.iload_n 1, 1) := by decide +kernel
theorem dX8_solve_28 : decode cX8_solve 28 = .ok (.aload_n 0, 1) := by decide +kernel
theorem dX8_solve_29 : decode cX8_solve 29 = .ok (.getfield 16, 3) := by decide +kernel
theorem dX8_solve_32 : decode cX8_solve 32 = .ok (.if_icmp .ge 16, 3) := by decide +kernel
theorem dX8_solve_35 : decode cX8_solve 35 = .ok (.aload_n 0, 1) := by decide +kernel
theorem dX8_solve_36 : decode cX8_solve 36 = .ok (.getfield 56, 3) := by decide +kernel
theorem dX8_solve_39 : decode cX8_solve 39 = .ok (.iload_n 1, 1) := by decide +kernel
theorem dX8_solve_40 : decode cX8_solve 40 = .ok (.iconst 0, 1) := by decide +kernel
theorem dX8_solve_41 : decode cX8_solve 41 = .ok (.iastore, 1) := by decide +kernel
theorem dX8_solve_42 : decode cX8_solve 42 = .ok (.iinc 1 1, 3) := by decide +kernel
theorem dX8_solve_45 : decode cX8_solve 45 = .ok (.goto (-18), 3) := by decide +kernel
theorem dX8_solve_48 : decode cX8_solve 48 = .ok (.aload_n 0, 1) := by decide +kernel
theorem dX8_solve_49 : decode cX8_solve 49 = .ok (.aload_n 0, 1) := by decide +kernel
theorem dX8_solve_50 : decode cX8_solve 50 = .ok (.invokevirtual 208, 3) := by decide +kernel
theorem dX8_solve_53 : decode cX8_solve 53 = .ok (.putfield 86, 3) := by decide +kernel
theorem dX8_solve_56 : decode cX8_solve 56 = .ok (.aload_n 0, 1) := by decide +kernel
theorem dX8_solve_57 : decode cX8_solve 57 = .ok (.getfield 86, 3) := by decide +kernel
theorem dX8_solve_60 : decode cX8_solve 60 = .ok (.ifCond .ne 21, 3) := by decide +kernel
theorem dX8_solve_63 : decode cX8_solve 63 = .ok (.aload_n 0, 1) := by decide +kernel
theorem dX8_solve_64 : decode cX8_solve 64 = .ok (.invokevirtual 224, 3) := by decide +kernel
theorem dX8_solve_67 : decode cX8_solve 67 = .ok (.ifCond .eq 14, 3) := by decide +kernel
theorem dX8_solve_70 : decode cX8_solve 70 = .ok (.aload_n 0, 1) := by decide +kernel
theorem dX8_solve_71 : decode cX8_solve 71 = .ok (.aload_n 0, 1) := by decide +kernel
theorem dX8_solve_72 : decode cX8_solve 72 = .ok (.invokevirtual 208, 3) := by decide +kernel
theorem dX8_solve_75 : decode cX8_solve 75 = .ok (.putfield 86, 3) := by decide +kernel
theorem dX8_solve_78 : decode cX8_solve 78 = .ok (.goto (-22), 3) := by decide +kernel
theorem dX8_solve_81 : decode cX8_solve 81 = .ok (.aload_n 0, 1) := by decide +kernel
theorem dX8_solve_82 : decode cX8_solve 82 = .ok (.aload_n 0, 1) := by decide +kernel
theorem dX8_solve_83 : decode cX8_solve 83 = .ok (.getfield 86, 3) := by decide +kernel
theorem dX8_solve_86 : decode cX8_solve 86 = .ok (.putfield 89, 3) := by decide +kernel
theorem dX8_solve_89 : decode cX8_solve 89 = .ok (.aload_n 0, 1) := by decide +kernel
theorem dX8_solve_90 : decode cX8_solve 90 = .ok (.getfield 86, 3) := by decide +kernel
theorem dX8_solve_93 : decode cX8_solve 93 = .ok (.ifCond .eq 11, 3) := by decide +kernel
theorem dX8_solve_96 : decode cX8_solve 96 = .ok (.aload_n 0, 1) := by decide +kernel
theorem dX8_solve_97 : decode cX8_solve 97 = .ok (.invokevirtual 227, 3) := by decide +kernel
theorem dX8_solve_100 : decode cX8_solve 100 = .ok (.aload_n 0, 1) := by decide +kernel
theorem dX8_solve_101 : decode cX8_solve 101 = .ok (.invokevirtual 230, 3) := by decide +kernel
theorem dX8_solve_104 : decode cX8_solve 104 = .ok (.aload_n 0, 1) := by decide +kernel
theorem dX8_solve_105 : decode cX8_solve 105 = .ok (.getfield 86, 3) := by decide +kernel
theorem dX8_solve_108 : decode cX8_solve 108 = .ok (.ireturn, 1) := by decide +kernel
set_option maxRecDepth 20000 in
theorem ggX8_choice_X8_in : GoodIn wsX8_choice wsX8_in := goodIn_r _ [8] (by decide +kernel) (by decide +kernel)
set_option maxRecDepth 20000 in
theorem gX8_choice_X8_in : GoodIn wsX8_choice (va_wsS RX8 92 yX8_in wsX8_in) := goodIn_app (goodIn_of _ (by decide +kernel)) ggX8_choice_X8_in
theorem dX8_choice_0 : decode cX8_choice 0 = .ok (.aload_n 0, 1) := by decide +kernel
theorem dX8_choice_1 : decode cX8_choice 1 = .ok (.iconst 0, 1) := by decide +kernel
theorem dX8_choice_2 : decode cX8_choice 2 = .ok (.putfield 79, 3) := by decide +kernel
theorem dX8_choice_5 : decode cX8_choice 5 = .ok (.aload_n 0, 1) := by decide +kernel
theorem dX8_choice_6 : decode cX8_choice 6 = .ok (.getfield 86, 3) := by decide +kernel
theorem dX8_choice_9 : decode cX8_choice 9 = .ok (.ifCond .eq 26, 3) := by decide +kernel
theorem dX8_choice_12 : decode cX8_choice 12 = .ok (.iload_n 1, 1) := by decide +kernel
theorem dX8_choice_13 : decode cX8_choice 13 = .ok (.iconst 0, 1) := by decide +kernel
theorem dX8_choice_14 : decode cX8_choice 14 = .ok (.aload_n 0, 1) := by decide +kernel
theorem dX8_choice_15 : decode cX8_choice 15 = .ok (.getfield 16, 3) := by decide +kernel
theorem dX8_choice_18 : decode cX8_choice 18 = .ok (.iconst 1, 1) := by decide +kernel
theorem dX8_choice_19 : decode cX8_choice 19 = .ok (.isub, 1) := by decide +kernel
theorem dX8_choice_20 : decode cX8_choice 20 = .ok (.invokestatic 92, 3) := by decide +kernel
theorem dX8_choice_23 : decode cX8_choice 23 = .ok (.ifCond .eq 12, 3) := by decide +kernel
theorem dX8_choice_26 : decode cX8_choice 26 = .ok (.aload_n 0, 1) := by decide +kernel
theorem dX8_choice_27 : decode cX8_choice 27 = .ok (.getfield 56, 3) := by decide +kernel
theorem dX8_choice_30 : decode cX8_choice 30 = .ok (.iload_n 1, 1) := by decide +kernel
theorem dX8_choice_31 : decode cX8_choice 31 = .ok (.iaload, 1) := by decide +kernel
theorem dX8_choice_32 : decode cX8_choice 32 = .ok (.goto 4, 3) := by decide +kernel
theorem dX8_choice_35 : decode cX8_choice 35 = .ok (.iconst (-1), 1) := by decide +kernel
theorem dX8_choice_36 : decode cX8_choice 36 = .ok (.ireturn, 1) := by decide +kernel
set_option maxRecDepth 20000 in
theorem ggX8_truth_X8_in : GoodIn wsX8_truth wsX8_in := goodIn_r _ [8] (by decide +kernel) (by decide +kernel)
set_option maxRecDepth 20000 in
theorem gX8_truth_X8_in : GoodIn wsX8_truth (va_wsS RX8 92 yX8_in wsX8_in) := goodIn_app (goodIn_of _ (by decide +kernel)) ggX8_truth_X8_in
theorem dX8_truth_0 : decode cX8_truth 0 = .ok (.aload_n 0, 1) := by decide +kernel
theorem dX8_truth_1 : decode cX8_truth 1 = .ok (.iconst 0, 1) := by decide +kernel
theorem dX8_truth_2 : decode cX8_truth 2 = .ok (.putfield 79, 3) := by decide +kernel
theorem dX8_truth_5 : decode cX8_truth 5 = .ok (.aload_n 0, 1) := by decide +kernel
theorem dX8_truth_6 : decode cX8_truth 6 = .ok (.getfield 86, 3) := by decide +kernel
theorem dX8_truth_9 : decode cX8_truth 9 = .ok (.ifCond .eq 17, 3) := by decide +kernel
theorem dX8_truth_12 : decode cX8_truth 12 = .ok (.iload_n 1, 1) := by decide +kernel
theorem dX8_truth_13 : decode cX8_truth 13 = .ok (.iconst 0, 1) := by decide +kernel
theorem dX8_truth_14 : decode cX8_truth 14 = .ok (.aload_n 0, 1) := by decide +kernel
theorem dX8_truth_15 : decode cX8_truth 15 = .ok (.getfield 158, 3) := by decide +kernel
theorem dX8_truth_18 : decode cX8_truth 18 = .ok (.iconst 1, 1) := by decide +kernel
theorem dX8_truth_19 : decode cX8_truth 19 = .ok (.isub, 1) := by decide +kernel
theorem dX8_truth_20 : decode cX8_truth 20 = .ok (.invokestatic 92, 3) := by decide +kernel
theorem dX8_truth_23 : decode cX8_truth 23 = .ok (.ifCond .ne 5, 3) := by decide +kernel
theorem dX8_truth_26 : decode cX8_truth 26 = .ok (.iconst (-1), 1) := by decide +kernel
theorem dX8_truth_27 : decode cX8_truth 27 = .ok (.ireturn, 1) := by decide +kernel
theorem dX8_truth_28 : decode cX8_truth 28 = .ok (.aload_n 0, 1) := by decide +kernel
theorem dX8_truth_29 : decode cX8_truth 29 = .ok (.getfield 68, 3) := by decide +kernel
theorem dX8_truth_32 : decode cX8_truth 32 = .ok (.iload_n 1, 1) := by decide +kernel
theorem dX8_truth_33 : decode cX8_truth 33 = .ok (.baload, 1) := by decide +kernel
theorem dX8_truth_34 : decode cX8_truth 34 = .ok (.ifCond .eq 7, 3) := by decide +kernel
theorem dX8_truth_37 : decode cX8_truth 37 = .ok (.iconst 1, 1) := by decide +kernel
theorem dX8_truth_38 : decode cX8_truth 38 = .ok (.goto 4, 3) := by decide +kernel
theorem dX8_truth_41 : decode cX8_truth 41 = .ok (.iconst 0, 1) := by decide +kernel
theorem dX8_truth_42 : decode cX8_truth 42 = .ok (.ireturn, 1) := by decide +kernel
set_option maxRecDepth 20000 in
theorem ggX8_covers_X8_in : GoodIn wsX8_covers wsX8_in := goodIn_r _ [7] (by decide +kernel) (by decide +kernel)
set_option maxRecDepth 20000 in
theorem gX8_covers_X8_in : GoodIn wsX8_covers (va_wsS RX8 92 yX8_in wsX8_in) := goodIn_app (goodIn_of _ (by decide +kernel)) ggX8_covers_X8_in
set_option maxRecDepth 20000 in
theorem ggX8_covers_X8_isIn : GoodIn wsX8_covers wsX8_isIn := goodIn_r _ [11, 12, 13, 14, 15, 16, 6, 17, 18, 19, 20, 21, 22, 23, 24, 25, 26, 27, 28, 29, 30, 31, 32, 33, 34, 35, 36, 37, 38, 39, 40, 41, 42, 43, 44, 45, 46, 47, 48, 49, 50, 51, 52, 53, 54, 55] (by decide +kernel) (by decide +kernel)
set_option maxRecDepth 20000 in
theorem gX8_covers_X8_isIn : GoodIn wsX8_covers (wsV RX8 218 RX8 yX8_isIn wsX8_isIn) := goodIn_app (goodIn_of _ (by decide +kernel)) ggX8_covers_X8_isIn
theorem dX8_covers_0 : decode cX8_covers 0 = .ok (.aload_n 0, 1) := by decide +kernel
theorem dX8_covers_1 : decode cX8_covers 1 = .ok (.iconst 0, 1) := by decide +kernel
theorem dX8_covers_2 : decode cX8_covers 2 = .ok (.putfield 79, 3) := by decide +kernel
theorem dX8_covers_5 : decode cX8_covers 5 = .ok (.aload_n 0, 1) := by decide +kernel
theorem dX8_covers_6 : decode cX8_covers 6 = .ok (.getfield 86, 3) := by decide +kernel
theorem dX8_covers_9 : decode cX8_covers 9 = .ok (.ifCond .eq 17, 3) := by decide +kernel
theorem dX8_covers_12 : decode cX8_covers 12 = .ok (.iload_n 1, 1) := by decide +kernel
theorem dX8_covers_13 : decode cX8_covers 13 = .ok (.iconst 0, 1) := by decide +kernel
theorem dX8_covers_14 : decode cX8_covers 14 = .ok (.aload_n 0, 1) := by decide +kernel
theorem dX8_covers_15 : decode cX8_covers 15 = .ok (.getfield 161, 3) := by decide +kernel
theorem dX8_covers_18 : decode cX8_covers 18 = .ok (.iconst 1, 1) := by decide +kernel
theorem dX8_covers_19 : decode cX8_covers 19 = .ok (.isub, 1) := by decide +kernel
theorem dX8_covers_20 : decode cX8_covers 20 = .ok (.invokestatic 92, 3) := by decide +kernel
theorem dX8_covers_23 : decode cX8_covers 23 = .ok (.ifCond .ne 5, 3) := by decide +kernel
theorem dX8_covers_26 : decode cX8_covers 26 = .ok (.iconst (-1), 1) := by decide +kernel
theorem dX8_covers_27 : decode cX8_covers 27 = .ok (.ireturn, 1) := by decide +kernel
theorem dX8_covers_28 : decode cX8_covers 28 = .ok (.aload_n 0, 1) := by decide +kernel
theorem dX8_covers_29 : decode cX8_covers 29 = .ok (.iload_n 1, 1) := by decide +kernel
theorem dX8_covers_30 : decode cX8_covers 30 = .ok (.invokevirtual 218, 3) := by decide +kernel
theorem dX8_covers_33 : decode cX8_covers 33 = .ok (.ifCond .eq 7, 3) := by decide +kernel
theorem dX8_covers_36 : decode cX8_covers 36 = .ok (.iconst 1, 1) := by decide +kernel
theorem dX8_covers_37 : decode cX8_covers 37 = .ok (.goto 4, 3) := by decide +kernel
theorem dX8_covers_40 : decode cX8_covers 40 = .ok (.iconst 0, 1) := by decide +kernel
theorem dX8_covers_41 : decode cX8_covers 41 = .ok (.ireturn, 1) := by decide +kernel
set_option maxRecDepth 20000 in
theorem ggX8_city_X8_in : GoodIn wsX8_city wsX8_in := goodIn_r _ [8] (by decide +kernel) (by decide +kernel)
set_option maxRecDepth 20000 in
theorem gX8_city_X8_in : GoodIn wsX8_city (va_wsS RX8 92 yX8_in wsX8_in) := goodIn_app (goodIn_of _ (by decide +kernel)) ggX8_city_X8_in
theorem dX8_city_0 : decode cX8_city 0 = .ok (.aload_n 0, 1) := by decide +kernel
theorem dX8_city_1 : decode cX8_city 1 = .ok (.iconst 0, 1) := by decide +kernel
theorem dX8_city_2 : decode cX8_city 2 = .ok (.putfield 79, 3) := by decide +kernel
theorem dX8_city_5 : decode cX8_city 5 = .ok (.aload_n 0, 1) := by decide +kernel
theorem dX8_city_6 : decode cX8_city 6 = .ok (.getfield 89, 3) := by decide +kernel
theorem dX8_city_9 : decode cX8_city 9 = .ok (.ifCond .eq 26, 3) := by decide +kernel
theorem dX8_city_12 : decode cX8_city 12 = .ok (.iload_n 1, 1) := by decide +kernel
theorem dX8_city_13 : decode cX8_city 13 = .ok (.iconst 0, 1) := by decide +kernel
theorem dX8_city_14 : decode cX8_city 14 = .ok (.aload_n 0, 1) := by decide +kernel
theorem dX8_city_15 : decode cX8_city 15 = .ok (.getfield 185, 3) := by decide +kernel
theorem dX8_city_18 : decode cX8_city 18 = .ok (.iconst 1, 1) := by decide +kernel
theorem dX8_city_19 : decode cX8_city 19 = .ok (.isub, 1) := by decide +kernel
theorem dX8_city_20 : decode cX8_city 20 = .ok (.invokestatic 92, 3) := by decide +kernel
theorem dX8_city_23 : decode cX8_city 23 = .ok (.ifCond .eq 12, 3) := by decide +kernel
theorem dX8_city_26 : decode cX8_city 26 = .ok (.aload_n 0, 1) := by decide +kernel
theorem dX8_city_27 : decode cX8_city 27 = .ok (.getfield 73, 3) := by decide +kernel
theorem dX8_city_30 : decode cX8_city 30 = .ok (.iload_n 1, 1) := by decide +kernel
theorem dX8_city_31 : decode cX8_city 31 = .ok (.iaload, 1) := by decide +kernel
theorem dX8_city_32 : decode cX8_city 32 = .ok (.goto 4, 3) := by decide +kernel
theorem dX8_city_35 : decode cX8_city 35 = .ok (.iconst (-1), 1) := by decide +kernel
theorem dX8_city_36 : decode cX8_city 36 = .ok (.ireturn, 1) := by decide +kernel
theorem dX8_may_0 : decode cX8_may 0 = .ok (.aload_n 0, 1) := by decide +kernel
theorem dX8_may_1 : decode cX8_may 1 = .ok (.aload_n 0, 1) := by decide +kernel
theorem dX8_may_2 : decode cX8_may 2 = .ok (.getfield 89, 3) := by decide +kernel
theorem dX8_may_5 : decode cX8_may 5 = .ok (.ifCond .ne 7, 3) := by decide +kernel
theorem dX8_may_8 : decode cX8_may 8 = .ok (.iconst 1, 1) := by decide +kernel
theorem dX8_may_9 : decode cX8_may 9 = .ok (.goto 12, 3) := by decide +kernel
theorem dX8_may_12 : decode cX8_may 12 = .ok (.iload_n 1, 1) := by decide +kernel
theorem dX8_may_13 : decode cX8_may 13 = .ok (.ifCond .ne 7, 3) := by decide +kernel
theorem dX8_may_16 : decode cX8_may 16 = .ok (.iconst 2, 1) := by decide +kernel
theorem dX8_may_17 : decode cX8_may 17 = .ok (.goto 4, 3) := by decide +kernel
theorem dX8_may_20 : decode cX8_may 20 = .ok (.iconst 0, 1) := by decide +kernel
theorem dX8_may_21 : decode cX8_may 21 = .ok (.putfield 79, 3) := by decide +kernel
theorem dX8_may_24 : decode cX8_may 24 = .ok (.aload_n 0, 1) := by decide +kernel
theorem dX8_may_25 : decode cX8_may 25 = .ok (.getfield 79, 3) := by decide +kernel
theorem dX8_may_28 : decode cX8_may 28 = .ok (.ifCond .ne 7, 3) := by decide +kernel
theorem dX8_may_31 : decode cX8_may 31 = .ok (.iconst 1, 1) := by decide +kernel
theorem dX8_may_32 : decode cX8_may 32 = .ok (.goto 4, 3) := by decide +kernel
theorem dX8_may_35 : decode cX8_may 35 = .ok (.iconst 0, 1) := by decide +kernel
theorem dX8_may_36 : decode cX8_may 36 = .ok (.ireturn, 1) := by decide +kernel
set_option maxRecDepth 20000 in
theorem ggX8_put_X8_in : GoodIn wsX8_put wsX8_in := goodIn_r _ [6] (by decide +kernel) (by decide +kernel)
set_option maxRecDepth 20000 in
theorem gX8_put_X8_in : GoodIn wsX8_put (va_wsS RX8 92 yX8_in wsX8_in) := goodIn_app (goodIn_of _ (by decide +kernel)) ggX8_put_X8_in
set_option maxRecDepth 20000 in
theorem ggX8_put_X8_may : GoodIn wsX8_put wsX8_may := goodIn_r _ [10, 11, 12, 13, 14, 15, 16, 17, 18, 19, 20, 21, 22, 23, 24, 25, 26, 27, 28, 29, 30, 31, 32, 33, 34, 35, 36, 37, 38, 39, 40, 41, 42, 43, 44, 45, 46, 47, 48, 49] (by decide +kernel) (by decide +kernel)
set_option maxRecDepth 20000 in
theorem gX8_put_X8_may : GoodIn wsX8_put (wsV RX8 233 RX8 yX8_may wsX8_may) := goodIn_app (goodIn_of _ (by decide +kernel)) ggX8_put_X8_may
theorem dX8_put_0 : decode cX8_put 0 = .ok (.aload_n 0, 1) := by decide +kernel
theorem dX8_put_1 : decode cX8_put 1 = .ok (.iload_n 1, 1) := by decide +kernel
theorem dX8_put_2 : decode cX8_put 2 = .ok (.iconst 0, 1) := by decide +kernel
theorem dX8_put_3 : decode cX8_put 3 = .ok (.aload_n 0, 1) := by decide +kernel
theorem dX8_put_4 : decode cX8_put 4 = .ok (.getfield 185, 3) := by decide +kernel
theorem dX8_put_7 : decode cX8_put 7 = .ok (.iconst 1, 1) := by decide +kernel
theorem dX8_put_8 : decode cX8_put 8 = .ok (.isub, 1) := by decide +kernel
theorem dX8_put_9 : decode cX8_put 9 = .ok (.invokestatic 92, 3) := by decide +kernel
theorem dX8_put_12 : decode cX8_put 12 = .ok (.ifCond .eq 21, 3) := by decide +kernel
theorem dX8_put_15 : decode cX8_put 15 = .ok (.iload_n 2, 1) := by decide +kernel
theorem dX8_put_16 : decode cX8_put 16 = .ok (.iconst 0, 1) := by decide +kernel
theorem dX8_put_17 : decode cX8_put 17 = .ok (.aload_n 0, 1) := by decide +kernel
theorem dX8_put_18 : decode cX8_put 18 = .ok (.getfield 185, 3) := by decide +kernel
theorem dX8_put_21 : decode cX8_put 21 = .ok (.iconst 1, 1) := by decide +kernel
theorem dX8_put_22 : decode cX8_put 22 = .ok (.isub, 1) := by decide +kernel
theorem dX8_put_23 : decode cX8_put 23 = .ok (.invokestatic 92, 3) := by decide +kernel
theorem dX8_put_26 : decode cX8_put 26 = .ok (.ifCond .eq 7, 3) := by decide +kernel
theorem dX8_put_29 : decode cX8_put 29 = .ok (.iconst 1, 1) := by decide +kernel
theorem dX8_put_30 : decode cX8_put 30 = .ok (.goto 4, 3) := by decide +kernel
theorem dX8_put_33 : decode cX8_put 33 = .ok (.iconst 0, 1) := by decide +kernel
theorem dX8_put_34 : decode cX8_put 34 = .ok (.invokevirtual 233, 3) := by decide +kernel
theorem dX8_put_37 : decode cX8_put 37 = .ok (.ifCond .ne 5, 3) := by decide +kernel
theorem dX8_put_40 : decode cX8_put 40 = .ok (.iconst 0, 1) := by decide +kernel
theorem dX8_put_41 : decode cX8_put 41 = .ok (.ireturn, 1) := by decide +kernel
theorem dX8_put_42 : decode cX8_put 42 = .ok (.aload_n 0, 1) := by decide +kernel
theorem dX8_put_43 : decode cX8_put 43 = .ok (.getfield 73, 3) := by decide +kernel
theorem dX8_put_46 : decode cX8_put 46 = .ok (.iload_n 1, 1) := by decide +kernel
theorem dX8_put_47 : decode cX8_put 47 = .ok (.iaload, 1) := by decide +kernel
theorem dX8_put_48 : decode cX8_put 48 = .ok (.istore_n 3, 1) := by decide +kernel
theorem dX8_put_49 : decode cX8_put 49 = .ok (.aload_n 0, 1) := by decide +kernel
theorem dX8_put_50 : decode cX8_put 50 = .ok (.getfield 73, 3) := by decide +kernel
theorem dX8_put_53 : decode cX8_put 53 = .ok (.iload_n 1, 1) := by decide +kernel
theorem dX8_put_54 : decode cX8_put 54 = .ok (.iload_n 2, 1) := by decide +kernel
theorem dX8_put_55 : decode cX8_put 55 = .ok (.iastore, 1) := by decide +kernel
theorem dX8_put_56 : decode cX8_put 56 = .ok (.iload_n 3, 1) := by decide +kernel
theorem dX8_put_57 : decode cX8_put 57 = .ok (.ireturn, 1) := by decide +kernel
theorem dX8_turnRound_0 : decode cX8_turnRound 0 = .ok (.iload_n 1, 1) := by decide +kernel
theorem dX8_turnRound_1 : decode cX8_turnRound 1 = .ok (.istore_n 3, 1) := by decide +kernel
theorem dX8_turnRound_2 : decode cX8_turnRound 2 = .ok (.iload_n 2, 1) := by decide +kernel
theorem dX8_turnRound_3 : decode cX8_turnRound 3 = .ok (.istore 4, 2) := by decide +kernel
theorem dX8_turnRound_5 : decode cX8_turnRound 5 = .ok (.iload_n 3, 1) := by decide +kernel
theorem dX8_turnRound_6 : decode cX8_turnRound 6 = .ok (.iload 4, 2) := by decide +kernel
theorem dX8_turnRound_8 : decode cX8_turnRound 8 = .ok (.if_icmp .ge 42, 3) := by decide +kernel
theorem dX8_turnRound_11 : decode cX8_turnRound 11 = .ok (.aload_n 0, 1) := by decide +kernel
theorem dX8_turnRound_12 : decode cX8_turnRound 12 = .ok (.getfield 73, 3) := by decide +kernel
theorem dX8_turnRound_15 : decode cX8_turnRound 15 = .ok (.iload_n 3, 1) := by decide +kernel
theorem dX8_turnRound_16 : decode cX8_turnRound 16 = .ok (.iaload, 1) := by decide +kernel
theorem dX8_turnRound_17 : decode cX8_turnRound 17 = .ok (.istore 5, 2) := by decide +kernel
theorem dX8_turnRound_19 : decode cX8_turnRound 19 = .ok (.aload_n 0, 1) := by decide +kernel
theorem dX8_turnRound_20 : decode cX8_turnRound 20 = .ok (.getfield 73, 3) := by decide +kernel
theorem dX8_turnRound_23 : decode cX8_turnRound 23 = .ok (.iload_n 3, 1) := by decide +kernel
theorem dX8_turnRound_24 : decode cX8_turnRound 24 = .ok (.aload_n 0, 1) := by decide +kernel
theorem dX8_turnRound_25 : decode cX8_turnRound 25 = .ok (.getfield 73, 3) := by decide +kernel
theorem dX8_turnRound_28 : decode cX8_turnRound 28 = .ok (.iload 4, 2) := by decide +kernel
theorem dX8_turnRound_30 : decode cX8_turnRound 30 = .ok (.iaload, 1) := by decide +kernel
theorem dX8_turnRound_31 : decode cX8_turnRound 31 = .ok (.iastore, 1) := by decide +kernel
theorem dX8_turnRound_32 : decode cX8_turnRound 32 = .ok (.aload_n 0, 1) := by decide +kernel
theorem dX8_turnRound_33 : decode cX8_turnRound 33 = .ok (.getfield 73, 3) := by decide +kernel
theorem dX8_turnRound_36 : decode cX8_turnRound 36 = .ok (.iload 4, 2) := by decide +kernel
theorem dX8_turnRound_38 : decode cX8_turnRound 38 = .ok (.iload 5, 2) := by decide +kernel
theorem dX8_turnRound_40 : decode cX8_turnRound 40 = .ok (.iastore, 1) := by decide +kernel
theorem dX8_turnRound_41 : decode cX8_turnRound 41 = .ok (.iinc 3 1, 3) := by decide +kernel
theorem dX8_turnRound_44 : decode cX8_turnRound 44 = .ok (.iinc 4 (-1), 3) := by decide +kernel
theorem dX8_turnRound_47 : decode cX8_turnRound 47 = .ok (.goto (-42), 3) := by decide +kernel
theorem dX8_turnRound_50 : decode cX8_turnRound 50 = .ok (.return_, 1) := by decide +kernel
set_option maxRecDepth 20000 in
theorem ggX8_turn_X8_in : GoodIn wsX8_turn wsX8_in := goodIn_r _ [5] (by decide +kernel) (by decide +kernel)
set_option maxRecDepth 20000 in
theorem gX8_turn_X8_in : GoodIn wsX8_turn (va_wsS RX8 92 yX8_in wsX8_in) := goodIn_app (goodIn_of _ (by decide +kernel)) ggX8_turn_X8_in
set_option maxRecDepth 20000 in
theorem ggX8_turn_X8_may : GoodIn wsX8_turn wsX8_may := goodIn_r _ [9, 10, 11, 17, 18, 19, 20, 21, 22, 23, 24, 25, 26, 27, 28, 29, 30, 31, 32, 33, 34, 35, 36, 37, 38, 39, 40, 41, 42, 43, 44, 45, 46, 47, 48, 49, 50, 51, 52, 53] (by decide +kernel) (by decide +kernel)
set_option maxRecDepth 20000 in
theorem gX8_turn_X8_may : GoodIn wsX8_turn (wsV RX8 233 RX8 yX8_may wsX8_may) := goodIn_app (goodIn_of _ (by decide +kernel)) ggX8_turn_X8_may
set_option maxRecDepth 20000 in
theorem ggX8_turn_X8_turnRound : GoodIn wsX8_turn wsX8_turnRound := goodIn_r _ [15, 16, 17, 18, 19, 20, 21, 22, 23, 24, 25, 26, 27, 28, 29, 30, 31, 32, 33, 34, 35, 36, 37, 38, 39, 40, 41, 42, 43, 44, 45, 46, 47, 48, 49, 50, 51, 52, 53] (by decide +kernel) (by decide +kernel)
set_option maxRecDepth 20000 in
theorem gX8_turn_X8_turnRound : GoodIn wsX8_turn (wsV RX8 237 RX8 yX8_turnRound wsX8_turnRound) := goodIn_app (goodIn_of _ (by decide +kernel)) ggX8_turn_X8_turnRound
theorem dX8_turn_0 : decode cX8_turn 0 = .ok (.aload_n 0, 1) := by decide +kernel
theorem dX8_turn_1 : decode cX8_turn 1 = .ok (.iload_n 1, 1) := by decide +kernel
theorem dX8_turn_2 : decode cX8_turn 2 = .ok (.iconst 0, 1) := by decide +kernel
theorem dX8_turn_3 : decode cX8_turn 3 = .ok (.aload_n 0, 1) := by decide +kernel
theorem dX8_turn_4 : decode cX8_turn 4 = .ok (.getfield 185, 3) := by decide +kernel
theorem dX8_turn_7 : decode cX8_turn 7 = .ok (.iconst 1, 1) := by decide +kernel
theorem dX8_turn_8 : decode cX8_turn 8 = .ok (.isub, 1) := by decide +kernel
theorem dX8_turn_9 : decode cX8_turn 9 = .ok (.invokestatic 92, 3) := by decide +kernel
theorem dX8_turn_12 : decode cX8_turn 12 = .ok (.invokevirtual 233, 3) := by decide +kernel
theorem dX8_turn_15 : decode cX8_turn 15 = .ok (.ifCond .ne 4, 3) := by decide +kernel
theorem dX8_turn_18 : decode cX8_turn 18 = .ok (.return_, 1) := by decide +kernel
theorem dX8_turn_19 : decode cX8_turn 19 = .ok (.aload_n 0, 1) := by decide +kernel
theorem dX8_turn_20 : decode cX8_turn 20 = .ok (.iconst 0, 1) := by decide +kernel
theorem dX8_turn_21 : decode cX8_turn 21 = .ok (.iload_n 1, 1) := by decide +kernel
theorem dX8_turn_22 : decode cX8_turn 22 = .ok (.iconst 1, 1) := by decide +kernel
theorem dX8_turn_23 : decode cX8_turn 23 = .ok (.isub, 1) := by decide +kernel
theorem dX8_turn_24 : decode cX8_turn 24 = .ok (.invokevirtual 237, 3) := by decide +kernel
theorem dX8_turn_27 : decode cX8_turn 27 = .ok (.aload_n 0, 1) := by decide +kernel
theorem dX8_turn_28 : decode cX8_turn 28 = .ok (.iload_n 1, 1) := by decide +kernel
theorem dX8_turn_29 : decode cX8_turn 29 = .ok (.aload_n 0, 1) := by decide +kernel
theorem dX8_turn_30 : decode cX8_turn 30 = .ok (.getfield 185, 3) := by decide +kernel
theorem dX8_turn_33 : decode cX8_turn 33 = .ok (.iconst 1, 1) := by decide +kernel
theorem dX8_turn_34 : decode cX8_turn 34 = .ok (.isub, 1) := by decide +kernel
theorem dX8_turn_35 : decode cX8_turn 35 = .ok (.invokevirtual 237, 3) := by decide +kernel
theorem dX8_turn_38 : decode cX8_turn 38 = .ok (.aload_n 0, 1) := by decide +kernel
theorem dX8_turn_39 : decode cX8_turn 39 = .ok (.iconst 0, 1) := by decide +kernel
theorem dX8_turn_40 : decode cX8_turn 40 = .ok (.aload_n 0, 1) := by decide +kernel
theorem dX8_turn_41 : decode cX8_turn 41 = .ok (.getfield 185, 3) := by decide +kernel
theorem dX8_turn_44 : decode cX8_turn 44 = .ok (.iconst 1, 1) := by decide +kernel
theorem dX8_turn_45 : decode cX8_turn 45 = .ok (.isub, 1) := by decide +kernel
theorem dX8_turn_46 : decode cX8_turn 46 = .ok (.invokevirtual 237, 3) := by decide +kernel
theorem dX8_turn_49 : decode cX8_turn 49 = .ok (.iload_n 2, 1) := by decide +kernel
theorem dX8_turn_50 : decode cX8_turn 50 = .ok (.ifCond .eq 14, 3) := by decide +kernel
theorem dX8_turn_53 : decode cX8_turn 53 = .ok (.aload_n 0, 1) := by decide +kernel
theorem dX8_turn_54 : decode cX8_turn 54 = .ok (.iconst 0, 1) := by decide +kernel
theorem dX8_turn_55 : decode cX8_turn 55 = .ok (.aload_n 0, 1) := by decide +kernel
theorem dX8_turn_56 : decode cX8_turn 56 = .ok (.getfield 185, 3) := by decide +kernel
theorem dX8_turn_59 : decode cX8_turn 59 = .ok (.iconst 1, 1) := by decide +kernel
theorem dX8_turn_60 : decode cX8_turn 60 = .ok (.isub, 1) := by decide +kernel
theorem dX8_turn_61 : decode cX8_turn 61 = .ok (.invokevirtual 237, 3) := by decide +kernel
theorem dX8_turn_64 : decode cX8_turn 64 = .ok (.return_, 1) := by decide +kernel
set_option maxRecDepth 20000 in
theorem ggX8_price_X8_far : GoodIn wsX8_price wsX8_far := goodIn_r _ [8, 9, 10, 11, 7, 12, 13, 14, 15, 16, 17, 18, 19, 20, 21, 22, 23, 24, 25, 26, 27, 28, 29, 30, 31, 32, 33, 34, 35, 36, 37, 38, 39, 40, 41, 42, 43, 44, 45, 46, 47, 48, 49, 50, 51, 52, 53, 54, 55, 56, 57, 58, 59, 60, 61, 62, 63, 64, 65, 66, 67] (by decide +kernel) (by decide +kernel)
set_option maxRecDepth 20000 in
theorem gX8_price_X8_far : GoodIn wsX8_price (wsV RX8 202 RX8 yX8_far wsX8_far) := goodIn_app (goodIn_of _ (by decide +kernel)) ggX8_price_X8_far
theorem dX8_price_0 : decode cX8_price 0 = .ok (.iconst 0, 1) := by decide +kernel
theorem dX8_price_1 : decode cX8_price 1 = .ok (.istore_n 1, 1) := by decide +kernel
theorem dX8_price_2 : decode cX8_price 2 = .ok (.iload_n 1, 1) := by decide +kernel
theorem dX8_price_3 : decode cX8_price 3 = .ok (.aload_n 0, 1) := by decide +kernel
theorem dX8_price_4 : decode cX8_price 4 = .ok (.getfield 185, 3) := by decide +kernel
theorem dX8_price_7 : decode cX8_price 7 = .ok (.if_icmp .ge 16, 3) := by decide +kernel
theorem dX8_price_10 : decode cX8_price 10 = .ok (.aload_n 0, 1) := by decide +kernel
theorem dX8_price_11 : decode cX8_price 11 = .ok (.getfield 76, 3) := by decide +kernel
theorem dX8_price_14 : decode cX8_price 14 = .ok (.iload_n 1, 1) := by decide +kernel
theorem dX8_price_15 : decode cX8_price 15 = .ok (.iconst 0, 1) := by decide +kernel
theorem dX8_price_16 : decode cX8_price 16 = .ok (.bastore, 1) := by decide +kernel
theorem dX8_price_17 : decode cX8_price 17 = .ok (.iinc 1 1, 3) := by decide +kernel
theorem dX8_price_20 : decode cX8_price 20 = .ok (.goto (-18), 3) := by decide +kernel
theorem dX8_price_23 : decode cX8_price 23 = .ok (.iconst 0, 1) := by decide +kernel
theorem dX8_price_24 : decode cX8_price 24 = .ok (.istore_n 1, 1) := by decide +kernel
theorem dX8_price_25 : decode cX8_price 25 = .ok (.iconst 0, 1) := by decide +kernel
theorem dX8_price_26 : decode cX8_price 26 = .ok (.istore_n 2, 1) := by decide +kernel
theorem dX8_price_27 : decode cX8_price 27 = .ok (.iload_n 2, 1) := by decide +kernel
theorem dX8_price_28 : decode cX8_price 28 = .ok (.aload_n 0, 1) := by decide +kernel
theorem dX8_price_29 : decode cX8_price 29 = .ok (.getfield 185, 3) := by decide +kernel
theorem dX8_price_32 : decode cX8_price 32 = .ok (.if_icmp .ge 72, 3) := by decide +kernel
theorem dX8_price_35 : decode cX8_price 35 = .ok (.aload_n 0, 1) := by decide +kernel
theorem dX8_price_36 : decode cX8_price 36 = .ok (.getfield 76, 3) := by decide +kernel
theorem dX8_price_39 : decode cX8_price 39 = .ok (.aload_n 0, 1) := by decide +kernel
theorem dX8_price_40 : decode cX8_price 40 = .ok (.getfield 73, 3) := by decide +kernel
theorem dX8_price_43 : decode cX8_price 43 = .ok (.iload_n 2, 1) := by decide +kernel
theorem dX8_price_44 : decode cX8_price 44 = .ok (.iaload, 1) := by decide +kernel
theorem dX8_price_45 : decode cX8_price 45 = .ok (.baload, 1) := by decide +kernel
theorem dX8_price_46 : decode cX8_price 46 = .ok (.ifCond .eq 5, 3) := by decide +kernel
theorem dX8_price_49 : decode cX8_price 49 = .ok (.iconst (-1), 1) := by decide +kernel
theorem dX8_price_50 : decode cX8_price 50 = .ok (.ireturn, 1) := by decide +kernel
theorem dX8_price_51 : decode cX8_price 51 = .ok (.aload_n 0, 1) := by decide +kernel
theorem dX8_price_52 : decode cX8_price 52 = .ok (.getfield 76, 3) := by decide +kernel
theorem dX8_price_55 : decode cX8_price 55 = .ok (.aload_n 0, 1) := by decide +kernel
theorem dX8_price_56 : decode cX8_price 56 = .ok (.getfield 73, 3) := by decide +kernel
theorem dX8_price_59 : decode cX8_price 59 = .ok (.iload_n 2, 1) := by decide +kernel
theorem dX8_price_60 : decode cX8_price 60 = .ok (.iaload, 1) := by decide +kernel
theorem dX8_price_61 : decode cX8_price 61 = .ok (.iconst 1, 1) := by decide +kernel
theorem dX8_price_62 : decode cX8_price 62 = .ok (.bastore, 1) := by decide +kernel
theorem dX8_price_63 : decode cX8_price 63 = .ok (.iload_n 1, 1) := by decide +kernel
theorem dX8_price_64 : decode cX8_price 64 = .ok (.aload_n 0, 1) := by decide +kernel
theorem dX8_price_65 : decode cX8_price 65 = .ok (.aload_n 0, 1) := by decide +kernel
theorem dX8_price_66 : decode cX8_price 66 = .ok (.getfield 73, 3) := by decide +kernel
theorem dX8_price_69 : decode cX8_price 69 = .ok (.iload_n 2, 1) := by decide +kernel
theorem dX8_price_70 : decode cX8_price 70 = .ok (.iaload, 1) := by decide +kernel
theorem dX8_price_71 : decode cX8_price 71 = .ok (.aload_n 0, 1) := by decide +kernel
theorem dX8_price_72 : decode cX8_price 72 = .ok (.getfield 73, 3) := by decide +kernel
theorem dX8_price_75 : decode cX8_price 75 = .ok (.iload_n 2, 1) := by decide +kernel
theorem dX8_price_76 : decode cX8_price 76 = .ok (.iconst 1, 1) := by decide +kernel
theorem dX8_price_77 : decode cX8_price 77 = .ok (.iadd, 1) := by decide +kernel
theorem dX8_price_78 : decode cX8_price 78 = .ok (.aload_n 0, 1) := by decide +kernel
theorem dX8_price_79 : decode cX8_price 79 = .ok (.getfield 185, 3) := by decide +kernel
theorem dX8_price_82 : decode cX8_price 82 = .ok (.if_icmp .ge 9, 3) := by decide +kernel
theorem dX8_price_85 : decode cX8_price 85 = .ok (.iload_n 2, 1) := by decide +kernel
theorem dX8_price_86 : decode cX8_price 86 = .ok (.iconst 1, 1) := by decide +kernel
theorem dX8_price_87 : decode cX8_price 87 = .ok (.iadd, 1) := by decide +kernel
theorem dX8_price_88 : decode cX8_price 88 = .ok (.goto 4, 3) := by decide +kernel
theorem dX8_price_91 : decode cX8_price 91 = .ok (.iconst 0, 1) := by decide +kernel
theorem dX8_price_92 : decode cX8_price 92 = .ok (.iaload, 1) := by decide +kernel
theorem dX8_price_93 : decode cX8_price 93 = .ok (.invokevirtual 202, 3) := by decide +kernel
theorem dX8_price_96 : decode cX8_price 96 = .ok (.iadd, 1) := by decide +kernel
theorem dX8_price_97 : decode cX8_price 97 = .ok (.istore_n 1, 1) := by decide +kernel
theorem dX8_price_98 : decode cX8_price 98 = .ok (.iinc 2 1, 3) := by decide +kernel
theorem dX8_price_101 : decode cX8_price 101 = .ok (.goto (-74), 3) := by decide +kernel
theorem dX8_price_104 : decode cX8_price 104 = .ok (.iload_n 1, 1) := by decide +kernel
theorem dX8_price_105 : decode cX8_price 105 = .ok (.ireturn, 1) := by decide +kernel
set_option maxRecDepth 20000 in
theorem ggX8_cost_X8_may : GoodIn wsX8_cost wsX8_may := goodIn_r _ [5, 6, 7, 41, 42, 43, 44, 45, 46, 47, 48, 49, 50, 51, 52, 53, 54, 55, 56, 57, 58, 59, 60, 61, 62, 63, 64, 65, 66, 67, 68, 69, 70, 71, 72, 73, 74, 75, 76, 77] (by decide +kernel) (by decide +kernel)
set_option maxRecDepth 20000 in
theorem gX8_cost_X8_may : GoodIn wsX8_cost (wsV RX8 233 RX8 yX8_may wsX8_may) := goodIn_app (goodIn_of _ (by decide +kernel)) ggX8_cost_X8_may
set_option maxRecDepth 20000 in
theorem ggX8_cost_X8_price : GoodIn wsX8_cost wsX8_price := goodIn_r _ [11, 12, 13, 14, 15, 16, 17, 4, 18, 19, 20, 21, 22, 23, 24, 25, 26, 27, 28, 29, 30, 31, 32, 33, 34, 35, 36, 37, 38, 39, 40, 41, 42, 43, 44, 45, 46, 47, 48, 49, 50, 51, 52, 53, 54, 55, 56, 57, 58, 59, 60, 61, 62, 63, 64, 65, 66, 67, 68, 69, 70, 71, 72, 73, 74, 75, 76, 77] (by decide +kernel) (by decide +kernel)
set_option maxRecDepth 20000 in
theorem gX8_cost_X8_price : GoodIn wsX8_cost (wsV RX8 240 RX8 yX8_price wsX8_price) := goodIn_app (goodIn_of _ (by decide +kernel)) ggX8_cost_X8_price
theorem dX8_cost_0 : decode cX8_cost 0 = .ok (.aload_n 0, 1) := by decide +kernel
theorem dX8_cost_1 : decode cX8_cost 1 = .ok (.iconst 1, 1) := by decide +kernel
theorem dX8_cost_2 : decode cX8_cost 2 = .ok (.invokevirtual 233, 3) := by decide +kernel
theorem dX8_cost_5 : decode cX8_cost 5 = .ok (.ifCond .eq 10, 3) := by decide +kernel
theorem dX8_cost_8 : decode cX8_cost 8 = .ok (.aload_n 0, 1) := by decide +kernel
theorem dX8_cost_9 : decode cX8_cost 9 = .ok (.invokevirtual 240, 3) := by decide +kernel
theorem dX8_cost_12 : decode cX8_cost 12 = .ok (.goto 4, 3) := by decide +kernel
theorem dX8_cost_15 : decode cX8_cost 15 = .ok (.iconst 0, 1) := by decide +kernel
theorem dX8_cost_16 : decode cX8_cost 16 = .ok (.ireturn, 1) := by decide +kernel
set_option maxRecDepth 20000 in
theorem ggX8_pull_X8_may : GoodIn wsX8_pull wsX8_may := goodIn_r _ [13, 14, 15, 95, 96, 97, 98, 99, 100, 101, 102, 103, 104, 105, 106, 107, 108, 109, 110, 111, 112, 113, 114, 115, 116, 117, 118, 119, 120, 121, 122, 123, 124, 125, 126, 127, 128, 129, 130, 131] (by decide +kernel) (by decide +kernel)
set_option maxRecDepth 20000 in
theorem gX8_pull_X8_may : GoodIn wsX8_pull (wsV RX8 233 RX8 yX8_may wsX8_may) := goodIn_app (goodIn_of _ (by decide +kernel)) ggX8_pull_X8_may
set_option maxRecDepth 20000 in
theorem ggX8_pull_X8_price : GoodIn wsX8_pull wsX8_price := goodIn_r _ [19, 1, 20, 4, 21, 22, 23, 12, 24, 25, 26, 27, 28, 5, 29, 30, 31, 32, 33, 34, 35, 36, 37, 38, 2, 39, 40, 41, 42, 43, 44, 95, 96, 97, 98, 99, 100, 101, 102, 103, 104, 105, 106, 107, 108, 109, 110, 111, 112, 113, 114, 115, 116, 117, 118, 119, 120, 121, 122, 123, 124, 125, 126, 127, 128, 129, 130, 131] (by decide +kernel) (by decide +kernel)
set_option maxRecDepth 20000 in
theorem gX8_pull_X8_price : GoodIn wsX8_pull (wsV RX8 240 RX8 yX8_price wsX8_price) := goodIn_app (goodIn_of _ (by decide +kernel)) ggX8_pull_X8_price
set_option maxRecDepth 20000 in
theorem ggX8_pull_X8_vertexAt : GoodIn wsX8_pull wsX8_vertexAt := goodIn_r _ [38, 2, 39, 95, 96, 97, 98, 99, 100, 101, 102, 103, 104, 105, 106, 107, 108, 109, 110, 111, 112, 113, 114, 115, 116, 117, 118, 119, 120, 121, 122, 123, 124, 125, 126, 127, 128, 129, 130, 131] (by decide +kernel) (by decide +kernel)
set_option maxRecDepth 20000 in
theorem gX8_pull_X8_vertexAt : GoodIn wsX8_pull (wsV RX8 167 RX8 yX8_vertexAt wsX8_vertexAt) := goodIn_app (goodIn_of _ (by decide +kernel)) ggX8_pull_X8_vertexAt
set_option maxRecDepth 20000 in
theorem ggX8_pull_X8_k : GoodIn wsX8_pull wsX8_k := goodIn_r _ [48, 6, 7, 49, 50, 51, 12, 52, 53, 54, 55, 56, 57, 58, 59, 60, 61, 62, 95, 96, 97, 98, 99, 100, 101, 102, 103, 104, 105, 106, 107, 108, 109, 110, 111, 112, 113, 114, 115, 116, 117, 118, 119, 120, 121, 122, 123, 124, 125, 126, 127, 128, 129, 130, 131] (by decide +kernel) (by decide +kernel)
set_option maxRecDepth 20000 in
theorem gX8_pull_X8_k : GoodIn wsX8_pull (wsV RX8 136 RX8 yX8_k wsX8_k) := goodIn_app (goodIn_of _ (by decide +kernel)) ggX8_pull_X8_k
set_option maxRecDepth 20000 in
theorem ggX8_pull_X8_forward : GoodIn wsX8_pull wsX8_forward := goodIn_r _ [66, 2, 3, 6, 67, 68, 69, 8, 70, 71, 72, 73, 74, 75, 76, 12, 77, 78, 53, 79, 80, 81, 82, 7, 83, 84, 85, 86, 87, 88, 89, 90, 58, 59, 60, 61, 62, 54, 55, 56, 57, 49, 50, 51, 52, 45, 46, 47, 48, 91, 92, 93, 94, 95, 96, 97, 98, 99, 100, 101, 102, 103, 104, 105, 106, 107, 108, 109, 110, 111, 112, 113, 114, 115, 116, 117, 118, 119, 120, 121, 122, 123, 124, 125, 126, 127, 128, 129, 130, 131] (by decide +kernel) (by decide +kernel)
set_option maxRecDepth 20000 in
theorem gX8_pull_X8_forward : GoodIn wsX8_pull (wsV RX8 227 RX8 yX8_forward wsX8_forward) := goodIn_app (goodIn_of _ (by decide +kernel)) ggX8_pull_X8_forward
theorem dX8_pull_0 : decode cX8_pull 0 = .ok (.aload_n 0, 1) := by decide +kernel
theorem dX8_pull_1 : decode cX8_pull 1 = .ok (.iconst 1, 1) := by decide +kernel
theorem dX8_pull_2 : decode cX8_pull 2 = .ok (.invokevirtual 233, 3) := by decide +kernel
theorem dX8_pull_5 : decode cX8_pull 5 = .ok (.ifCond .eq 14, 3) := by decide +kernel
theorem dX8_pull_8 : decode cX8_pull 8 = .ok (.aload_n 0, 1) := by decide +kernel
theorem dX8_pull_9 : decode cX8_pull 9 = .ok (.invokevirtual 240, 3) := by decide +kernel
theorem dX8_pull_12 : decode cX8_pull 12 = .ok (.aload_n 0, 1) := by decide +kernel
theorem dX8_pull_13 : decode cX8_pull 13 = .ok (.getfield 185, 3) := by decide +kernel
theorem dX8_pull_16 : decode cX8_pull 16 = .ok (.if_icmp .eq 5, 3) := by decide +kernel
theorem dX8_pull_19 : decode cX8_pull 19 = .ok (.iconst 0, 1) := by decide +kernel
theorem dX8_pull_20 : decode cX8_pull 20 = .ok (.ireturn, 1) := by decide +kernel
theorem dX8_pull_21 : decode cX8_pull 21 = .ok (.iconst 0, 1) := by decide +kernel
theorem dX8_pull_22 : decode cX8_pull 22 = .ok (.istore_n 1, 1) := by decide +kernel
theorem dX8_pull_23 : decode cX8_pull 23 = .ok (.iload_n 1, 1) := by decide +kernel
theorem dX8_pull_24 : decode cX8_pull 24 = .ok (.aload_n 0, 1) := by decide +kernel
theorem dX8_pull_25 : decode cX8_pull 25 = .ok (.getfield 158, 3) := by decide +kernel
theorem dX8_pull_28 : decode cX8_pull 28 = .ok (.if_icmp .ge 16, 3) := by decide +kernel
theorem dX8_pull_31 : decode cX8_pull 31 = .ok (.aload_n 0, 1) := by decide +kernel
theorem dX8_pull_32 : decode cX8_pull 32 = .ok (.getfield 68, 3) := by decide +kernel
theorem dX8_pull_35 : decode cX8_pull 35 = .ok (.iload_n 1, 1) := by decide +kernel
theorem dX8_pull_36 : decode cX8_pull 36 = .ok (.iconst 0, 1) := by decide +kernel
theorem dX8_pull_37 : decode cX8_pull 37 = .ok (.bastore, 1) := by decide +kernel
theorem dX8_pull_38 : decode cX8_pull 38 = .ok (.iinc 1 1, 3) := by decide +kernel
theorem dX8_pull_41 : decode cX8_pull 41 = .ok (.goto (-18), 3) := by decide +kernel
theorem dX8_pull_44 : decode cX8_pull 44 = .ok (.iconst 0, 1) := by decide +kernel
theorem dX8_pull_45 : decode cX8_pull 45 = .ok (.istore_n 1, 1) := by decide +kernel
theorem dX8_pull_46 : decode cX8_pull 46 = .ok (.iload_n 1, 1) := by decide +kernel
theorem dX8_pull_47 : decode cX8_pull 47 = .ok (.aload_n 0, 1) := by decide +kernel
theorem dX8_pull_48 : decode cX8_pull 48 = .ok (.getfield 185, 3) := by decide +kernel
theorem dX8_pull_51 : decode cX8_pull 51 = .ok (.if_icmp .ge 99, 3) := by decide +kernel
theorem dX8_pull_54 : decode cX8_pull 54 = .ok (.aload_n 0, 1) := by decide +kernel
theorem dX8_pull_55 : decode cX8_pull 55 = .ok (.getfield 73, 3) := by decide +kernel
theorem dX8_pull_58 : decode cX8_pull 58 = .ok (.iload_n 1, 1) := by decide +kernel
theorem dX8_pull_59 : decode cX8_pull 59 = .ok (.iconst 1, 1) := by decide +kernel
theorem dX8_pull_60 : decode cX8_pull 60 = .ok (.iadd, 1) := by decide +kernel
theorem dX8_pull_61 : decode cX8_pull 61 = .ok (.aload_n 0, 1) := by decide +kernel
theorem dX8_pull_62 : decode cX8_pull 62 = .ok (.getfield 185, 3) := by decide +kernel
theorem dX8_pull_65 : decode cX8_pull 65 = .ok (.if_icmp .ge 9, 3) := by decide +kernel
theorem dX8_pull_68 : decode cX8_pull 68 = .ok (.iload_n 1, 1) := by decide +kernel
theorem dX8_pull_69 : decode cX8_pull 69 = .ok (.iconst 1, 1) := by decide +kernel
theorem dX8_pull_70 : decode cX8_pull 70 = .ok (.iadd, 1) := by decide +kernel
theorem dX8_pull_71 : decode cX8_pull 71 = .ok (.goto 4, 3) := by decide +kernel
theorem dX8_pull_74 : decode cX8_pull 74 = .ok (.iconst 0, 1) := by decide +kernel
theorem dX8_pull_75 : decode cX8_pull 75 = .ok (.iaload, 1) := by decide +kernel
theorem dX8_pull_76 : decode cX8_pull 76 = .ok (.istore_n 2, 1) := by decide +kernel
theorem dX8_pull_77 : decode cX8_pull 77 = .ok (.aload_n 0, 1) := by decide +kernel
theorem dX8_pull_78 : decode cX8_pull 78 = .ok (.getfield 73, 3) := by decide +kernel
theorem dX8_pull_81 : decode cX8_pull 81 = .ok (.iload_n 1, 1) := by decide +kernel
theorem dX8_pull_82 : decode cX8_pull 82 = .ok (.iaload, 1) := by decide +kernel
theorem dX8_pull_83 : decode cX8_pull 83 = .ok (.bipush 12, 2) := by decide +kernel
theorem dX8_pull_85 : decode cX8_pull 85 = .ok (.aload_n 0, 1) := by decide +kernel
theorem dX8_pull_86 : decode cX8_pull 86 = .ok (.getfield 164, 3) := by decide +kernel
theorem dX8_pull_89 : decode cX8_pull 89 = .ok (.imul, 1) := by decide +kernel
theorem dX8_pull_90 : decode cX8_pull 90 = .ok (.if_icmp .lt 54, 3) := by decide +kernel
theorem dX8_pull_93 : decode cX8_pull 93 = .ok (.iload_n 2, 1) := by decide +kernel
theorem dX8_pull_94 : decode cX8_pull 94 = .ok (.bipush 12, 2) := by decide +kernel
theorem dX8_pull_96 : decode cX8_pull 96 = .ok (.aload_n 0, 1) := by decide +kernel
theorem dX8_pull_97 : decode cX8_pull 97 = .ok (.getfield 164, 3) := by decide +kernel
theorem dX8_pull_100 : decode cX8_pull 100 = .ok (.imul, 1) := by decide +kernel
theorem dX8_pull_101 : decode cX8_pull 101 = .ok (.if_icmp .ge 43, 3) := by decide +kernel
theorem dX8_pull_104 : decode cX8_pull 104 = .ok (.aload_n 0, 1) := by decide +kernel
theorem dX8_pull_105 : decode cX8_pull 105 = .ok (.iload_n 2, 1) := by decide +kernel
theorem dX8_pull_106 : decode cX8_pull 106 = .ok (.bipush 12, 2) := by decide +kernel
theorem dX8_pull_108 : decode cX8_pull 108 = .ok (.idiv, 1) := by decide +kernel
theorem dX8_pull_109 : decode cX8_pull 109 = .ok (.iload_n 2, 1) := by decide +kernel
theorem dX8_pull_110 : decode cX8_pull 110 = .ok (.bipush 6, 2) := by decide +kernel
theorem dX8_pull_112 : decode cX8_pull 112 = .ok (.idiv, 1) := by decide +kernel
theorem dX8_pull_113 : decode cX8_pull 113 = .ok (.iconst 2, 1) := by decide +kernel
theorem dX8_pull_114 : decode cX8_pull 114 = .ok (.irem, 1) := by decide +kernel
theorem dX8_pull_115 : decode cX8_pull 115 = .ok (.invokevirtual 167, 3) := by decide +kernel
theorem dX8_pull_118 : decode cX8_pull 118 = .ok (.istore_n 3, 1) := by decide +kernel
theorem dX8_pull_119 : decode cX8_pull 119 = .ok (.iload_n 3, 1) := by decide +kernel
theorem dX8_pull_120 : decode cX8_pull 120 = .ok (.iconst 2, 1) := by decide +kernel
theorem dX8_pull_121 : decode cX8_pull 121 = .ok (.aload_n 0, 1) := by decide +kernel
theorem dX8_pull_122 : decode cX8_pull 122 = .ok (.getfield 158, 3) := by decide +kernel
theorem dX8_pull_125 : decode cX8_pull 125 = .ok (.imul, 1) := by decide +kernel
theorem dX8_pull_126 : decode cX8_pull 126 = .ok (.if_icmp .ge 18, 3) := by decide +kernel
theorem dX8_pull_129 : decode cX8_pull 129 = .ok (.iload_n 3, 1) := by decide +kernel
theorem dX8_pull_130 : decode cX8_pull 130 = .ok (.iconst 2, 1) := by decide +kernel
theorem dX8_pull_131 : decode cX8_pull 131 = .ok (.irem, 1) := by decide +kernel
theorem dX8_pull_132 : decode cX8_pull 132 = .ok (.ifCond .ne 12, 3) := by decide +kernel
theorem dX8_pull_135 : decode cX8_pull 135 = .ok (.aload_n 0, 1) := by decide +kernel
theorem dX8_pull_136 : decode cX8_pull 136 = .ok (.getfield 68, 3) := by decide +kernel
theorem dX8_pull_139 : decode cX8_pull 139 = .ok (.iload_n 3, 1) := by decide +kernel
theorem dX8_pull_140 : decode cX8_pull 140 = .ok (.iconst 2, 1) := by decide +kernel
theorem dX8_pull_141 : decode cX8_pull 141 = .ok (.idiv, 1) := by decide +kernel
theorem dX8_pull_142 : decode cX8_pull 142 = .ok (.iconst 1, 1) := by decide +kernel
theorem dX8_pull_143 : decode cX8_pull 143 = .ok (.bastore, 1) := by decide +kernel
theorem dX8_pull_144 : decode cX8_pull 144 = .ok (.iinc 1 1, 3) := by decide +kernel
theorem dX8_pull_147 : decode cX8_pull 147 = .ok (.goto (-101), 3) := by decide +kernel
theorem dX8_pull_150 : decode cX8_pull 150 = .ok (.iconst 0, 1) := by decide +kernel
theorem dX8_pull_151 : decode cX8_pull 151 = .ok (.istore_n 1, 1) := by decide +kernel
theorem dX8_pull_152 : decode cX8_pull 152 = .ok (.iload_n 1, 1) := by decide +kernel
theorem dX8_pull_153 : decode cX8_pull 153 = .ok (.aload_n 0, 1) := by decide +kernel
theorem dX8_pull_154 : decode cX8_pull 154 = .ok (.getfield 16, 3) := by decide +kernel
theorem dX8_pull_157 : decode cX8_pull 157 = .ok (.if_icmp .ge 46, 3) := by decide +kernel
theorem dX8_pull_160 : decode cX8_pull 160 = .ok (.iconst 0, 1) := by decide +kernel
theorem dX8_pull_161 : decode cX8_pull 161 = .ok (.istore_n 2, 1) := by decide +kernel
theorem dX8_pull_162 : decode cX8_pull 162 = .ok (.iload_n 2, 1) := by decide +kernel
theorem dX8_pull_163 : decode cX8_pull 163 = .ok (.aload_n 0, 1) := by decide +kernel
theorem dX8_pull_164 : decode cX8_pull 164 = .ok (.getfield 96, 3) := by decide +kernel
theorem dX8_pull_167 : decode cX8_pull 167 = .ok (.if_icmp .ge 23, 3) := by decide +kernel
theorem dX8_pull_170 : decode cX8_pull 170 = .ok (.aload_n 0, 1) := by decide +kernel
theorem dX8_pull_171 : decode cX8_pull 171 = .ok (.getfield 68, 3) := by decide +kernel
theorem dX8_pull_174 : decode cX8_pull 174 = .ok (.aload_n 0, 1) := by decide +kernel
theorem dX8_pull_175 : decode cX8_pull 175 = .ok (.iload_n 1, 1) := by decide +kernel
theorem dX8_pull_176 : decode cX8_pull 176 = .ok (.iload_n 2, 1) := by decide +kernel
theorem dX8_pull_177 : decode cX8_pull 177 = .ok (.invokevirtual 136, 3) := by decide +kernel
theorem dX8_pull_180 : decode cX8_pull 180 = .ok (.baload, 1) := by decide +kernel
theorem dX8_pull_181 : decode cX8_pull 181 = .ok (.ifCond .ne 9, 3) := by decide +kernel
theorem dX8_pull_184 : decode cX8_pull 184 = .ok (.iinc 2 1, 3) := by decide +kernel
theorem dX8_pull_187 : decode cX8_pull 187 = .ok (.goto (-25), 3) := by decide +kernel
theorem dX8_pull_190 : decode cX8_pull 190 = .ok (.aload_n 0, 1) := by decide +kernel
theorem dX8_pull_191 : decode cX8_pull 191 = .ok (.getfield 56, 3) := by decide +kernel
theorem dX8_pull_194 : decode cX8_pull 194 = .ok (.iload_n 1, 1) := by decide +kernel
theorem dX8_pull_195 : decode cX8_pull 195 = .ok (.iload_n 2, 1) := by decide +kernel
theorem dX8_pull_196 : decode cX8_pull 196 = .ok (.iastore, 1) := by decide +kernel
theorem dX8_pull_197 : decode cX8_pull 197 = .ok (.iinc 1 1, 3) := by decide +kernel
theorem dX8_pull_200 : decode cX8_pull 200 = .ok (.goto (-48), 3) := by decide +kernel
theorem dX8_pull_203 : decode cX8_pull 203 = .ok (.aload_n 0, 1) := by decide +kernel
theorem dX8_pull_204 : decode cX8_pull 204 = .ok (.invokevirtual 227, 3) := by decide +kernel
theorem dX8_pull_207 : decode cX8_pull 207 = .ok (.iconst 1, 1) := by decide +kernel
theorem dX8_pull_208 : decode cX8_pull 208 = .ok (.ireturn, 1) := by decide +kernel
set_option maxRecDepth 20000 in
theorem ggX8_replay_X8_runs : GoodIn wsX8_replay wsX8_runs := goodIn_r _ [7, 8, 9, 10, 11, 12, 13, 14, 15, 16, 17, 6, 18, 19, 20, 21, 22, 23, 24, 25, 26, 27, 28, 29, 30, 31, 32, 33, 34, 35, 36, 37, 38, 39, 40, 41, 42, 43, 44, 45, 46, 47, 48, 49, 50, 51, 52, 53, 54, 55, 56, 57, 58, 59, 60, 61, 62, 63, 64] (by decide +kernel) (by decide +kernel)
set_option maxRecDepth 20000 in
theorem gX8_replay_X8_runs : GoodIn wsX8_replay (wsV RX8 208 RX8 yX8_runs wsX8_runs) := goodIn_app (goodIn_of _ (by decide +kernel)) ggX8_replay_X8_runs
theorem dX8_replay_0 : decode cX8_replay 0 = .ok (.aload_n 0, 1) := by decide +kernel
theorem dX8_replay_1 : decode cX8_replay 1 = .ok (.aload_n 0, 1) := by decide +kernel
theorem dX8_replay_2 : decode cX8_replay 2 = .ok (.getfield 86, 3) := by decide +kernel
theorem dX8_replay_5 : decode cX8_replay 5 = .ok (.ifCond .eq 7, 3) := by decide +kernel
theorem dX8_replay_8 : decode cX8_replay 8 = .ok (.iconst 0, 1) := by decide +kernel
theorem dX8_replay_9 : decode cX8_replay 9 = .ok (.goto 4, 3) := by decide +kernel
theorem dX8_replay_12 : decode cX8_replay 12 = .ok (.iconst 1, 1) := by decide +kernel
theorem dX8_replay_13 : decode cX8_replay 13 = .ok (.putfield 79, 3) := by decide +kernel
theorem dX8_replay_16 : decode cX8_replay 16 = .ok (.aload_n 0, 1) := by decide +kernel
theorem dX8_replay_17 : decode cX8_replay 17 = .ok (.getfield 86, 3) := by decide +kernel
theorem dX8_replay_20 : decode cX8_replay 20 = .ok (.ifCond .eq 14, 3) := by decide +kernel
theorem dX8_replay_23 : decode cX8_replay 23 = .ok (.aload_n 0, 1) := by decide +kernel
theorem dX8_replay_24 : decode cX8_replay 24 = .ok (.invokevirtual 208, 3) := by decide +kernel
theorem dX8_replay_27 : decode cX8_replay 27 = .ok (.ifCond .eq 7, 3) := by decide +kernel
theorem dX8_replay_30 : decode cX8_replay 30 = .ok (.iconst 1, 1) := by decide +kernel
theorem dX8_replay_31 : decode cX8_replay 31 = .ok (.goto 4, 3) := by decide +kernel
theorem dX8_replay_34 : decode cX8_replay 34 = .ok (.iconst 0, 1) := by decide +kernel
theorem dX8_replay_35 : decode cX8_replay 35 = .ok (.ireturn, 1) := by decide +kernel
