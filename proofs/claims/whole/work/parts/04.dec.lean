theorem dJ9_floorMod_7cf53_0 : decode cJ9_floorMod_7cf53 0 = .ok (.iload_n 0, 1) := by decide +kernel
theorem dJ9_floorMod_7cf53_1 : decode cJ9_floorMod_7cf53 1 = .ok (.iload_n 1, 1) := by decide +kernel
theorem dJ9_floorMod_7cf53_2 : decode cJ9_floorMod_7cf53 2 = .ok (.irem, 1) := by decide +kernel
theorem dJ9_floorMod_7cf53_3 : decode cJ9_floorMod_7cf53 3 = .ok (.istore_n 2, 1) := by decide +kernel
theorem dJ9_floorMod_7cf53_4 : decode cJ9_floorMod_7cf53 4 = .ok (.iload_n 0, 1) := by decide +kernel
theorem dJ9_floorMod_7cf53_5 : decode cJ9_floorMod_7cf53 5 = .ok (.iload_n 1, 1) := by decide +kernel
theorem dJ9_floorMod_7cf53_6 : decode cJ9_floorMod_7cf53 6 = .ok (.ixor, 1) := by decide +kernel
theorem dJ9_floorMod_7cf53_7 : decode cJ9_floorMod_7cf53 7 = .ok (.ifCond .ge 11, 3) := by decide +kernel
theorem dJ9_floorMod_7cf53_10 : decode cJ9_floorMod_7cf53 10 = .ok (.iload_n 2, 1) := by decide +kernel
theorem dJ9_floorMod_7cf53_11 : decode cJ9_floorMod_7cf53 11 = .ok (.ifCond .eq 7, 3) := by decide +kernel
theorem dJ9_floorMod_7cf53_14 : decode cJ9_floorMod_7cf53 14 = .ok (.iload_n 2, 1) := by decide +kernel
theorem dJ9_floorMod_7cf53_15 : decode cJ9_floorMod_7cf53 15 = .ok (.iload_n 1, 1) := by decide +kernel
theorem dJ9_floorMod_7cf53_16 : decode cJ9_floorMod_7cf53 16 = .ok (.iadd, 1) := by decide +kernel
theorem dJ9_floorMod_7cf53_17 : decode cJ9_floorMod_7cf53 17 = .ok (.ireturn, 1) := by decide +kernel
theorem dJ9_floorMod_7cf53_18 : decode cJ9_floorMod_7cf53 18 = .ok (.iload_n 2, 1) := by decide +kernel
theorem dJ9_floorMod_7cf53_19 : decode cJ9_floorMod_7cf53 19 = .ok (.ireturn, 1) := by decide +kernel
theorem dJ9_max_7cf53_0 : decode cJ9_max_7cf53 0 = .ok (.iload_n 0, 1) := by decide +kernel
theorem dJ9_max_7cf53_1 : decode cJ9_max_7cf53 1 = .ok (.iload_n 1, 1) := by decide +kernel
theorem dJ9_max_7cf53_2 : decode cJ9_max_7cf53 2 = .ok (.if_icmp .lt 7, 3) := by decide +kernel
theorem dJ9_max_7cf53_5 : decode cJ9_max_7cf53 5 = .ok (.iload_n 0, 1) := by decide +kernel
theorem dJ9_max_7cf53_6 : decode cJ9_max_7cf53 6 = .ok (.goto 4, 3) := by decide +kernel
theorem dJ9_max_7cf53_9 : decode cJ9_max_7cf53 9 = .ok (.iload_n 1, 1) := by decide +kernel
theorem dJ9_max_7cf53_10 : decode cJ9_max_7cf53 10 = .ok (.ireturn, 1) := by decide +kernel
theorem dJ9_min_7cf53_0 : decode cJ9_min_7cf53 0 = .ok (.iload_n 0, 1) := by decide +kernel
theorem dJ9_min_7cf53_1 : decode cJ9_min_7cf53 1 = .ok (.iload_n 1, 1) := by decide +kernel
theorem dJ9_min_7cf53_2 : decode cJ9_min_7cf53 2 = .ok (.if_icmp .gt 7, 3) := by decide +kernel
theorem dJ9_min_7cf53_5 : decode cJ9_min_7cf53 5 = .ok (.iload_n 0, 1) := by decide +kernel
theorem dJ9_min_7cf53_6 : decode cJ9_min_7cf53 6 = .ok (.goto 4, 3) := by decide +kernel
theorem dJ9_min_7cf53_9 : decode cJ9_min_7cf53 9 = .ok (.iload_n 1, 1) := by decide +kernel
theorem dJ9_min_7cf53_10 : decode cJ9_min_7cf53 10 = .ok (.ireturn, 1) := by decide +kernel
theorem dJ7_rangeCheck_23922_0 : decode cJ7_rangeCheck_23922 0 = .ok (.iload_n 1, 1) := by decide +kernel
theorem dJ7_rangeCheck_23922_1 : decode cJ7_rangeCheck_23922 1 = .ok (.iload_n 2, 1) := by decide +kernel
theorem dJ7_rangeCheck_23922_2 : decode cJ7_rangeCheck_23922 2 = .ok (.if_icmp .le 44, 3) := by decide +kernel
theorem dJ7_rangeCheck_23922_5 : decode cJ7_rangeCheck_23922 5 = .ok (.new 43, 3) := by decide +kernel
theorem dJ7_rangeCheck_23922_8 : decode cJ7_rangeCheck_23922 8 = .ok (.dup, 1) := by decide +kernel
theorem dJ7_rangeCheck_23922_9 : decode cJ7_rangeCheck_23922 9 = .ok (.new 45, 3) := by decide +kernel
theorem dJ7_rangeCheck_23922_12 : decode cJ7_rangeCheck_23922 12 = .ok (.dup, 1) := by decide +kernel
theorem dJ7_rangeCheck_23922_13 : decode cJ7_rangeCheck_23922 13 = .ok (.invokespecial 47, 3) := by decide +kernel
theorem dJ7_rangeCheck_23922_16 : decode cJ7_rangeCheck_23922 16 = .ok (.ldc 48, 2) := by decide +kernel
theorem dJ7_rangeCheck_23922_18 : decode cJ7_rangeCheck_23922 18 = .ok (.invokevirtual 50, 3) := by decide +kernel
theorem dJ7_rangeCheck_23922_21 : decode cJ7_rangeCheck_23922 21 = .ok (.iload_n 1, 1) := by decide +kernel
theorem dJ7_rangeCheck_23922_22 : decode cJ7_rangeCheck_23922 22 = .ok (.invokevirtual 54, 3) := by decide +kernel
theorem dJ7_rangeCheck_23922_25 : decode cJ7_rangeCheck_23922 25 = .ok (.ldc 57, 2) := by decide +kernel
theorem dJ7_rangeCheck_23922_27 : decode cJ7_rangeCheck_23922 27 = .ok (.invokevirtual 50, 3) := by decide +kernel
theorem dJ7_rangeCheck_23922_30 : decode cJ7_rangeCheck_23922 30 = .ok (.iload_n 2, 1) := by decide +kernel
theorem dJ7_rangeCheck_23922_31 : decode cJ7_rangeCheck_23922 31 = .ok (.invokevirtual 54, 3) := by decide +kernel
theorem dJ7_rangeCheck_23922_34 : decode cJ7_rangeCheck_23922 34 = .ok (.ldc 59, 2) := by decide +kernel
theorem dJ7_rangeCheck_23922_36 : decode cJ7_rangeCheck_23922 36 = .ok (.invokevirtual 50, 3) := by decide +kernel
theorem dJ7_rangeCheck_23922_39 : decode cJ7_rangeCheck_23922 39 = .ok (.invokevirtual 61, 3) := by decide +kernel
theorem dJ7_rangeCheck_23922_42 : decode cJ7_rangeCheck_23922 42 = .ok (.invokespecial 65, 3) := by decide +kernel
theorem dJ7_rangeCheck_23922_45 : decode cJ7_rangeCheck_23922 45 = .ok (.athrow, 1) := by decide +kernel
theorem dJ7_rangeCheck_23922_46 : decode cJ7_rangeCheck_23922 46 = .ok (.iload_n 1, 1) := by decide +kernel
theorem dJ7_rangeCheck_23922_47 : decode cJ7_rangeCheck_23922 47 = .ok (.ifCond .ge 12, 3) := by decide +kernel
theorem dJ7_rangeCheck_23922_50 : decode cJ7_rangeCheck_23922 50 = .ok (.new 68, 3) := by decide +kernel
theorem dJ7_rangeCheck_23922_53 : decode cJ7_rangeCheck_23922 53 = .ok (.dup, 1) := by decide +kernel
theorem dJ7_rangeCheck_23922_54 : decode cJ7_rangeCheck_23922 54 = .ok (.iload_n 1, 1) := by decide +kernel
theorem dJ7_rangeCheck_23922_55 : decode cJ7_rangeCheck_23922 55 = .ok (.invokespecial 70, 3) := by decide +kernel
theorem dJ7_rangeCheck_23922_58 : decode cJ7_rangeCheck_23922 58 = .ok (.athrow, 1) := by decide +kernel
theorem dJ7_rangeCheck_23922_59 : decode cJ7_rangeCheck_23922 59 = .ok (.iload_n 2, 1) := by decide +kernel
theorem dJ7_rangeCheck_23922_60 : decode cJ7_rangeCheck_23922 60 = .ok (.iload_n 0, 1) := by decide +kernel
theorem dJ7_rangeCheck_23922_61 : decode cJ7_rangeCheck_23922 61 = .ok (.if_icmp .le 12, 3) := by decide +kernel
theorem dJ7_rangeCheck_23922_64 : decode cJ7_rangeCheck_23922 64 = .ok (.new 68, 3) := by decide +kernel
theorem dJ7_rangeCheck_23922_67 : decode cJ7_rangeCheck_23922 67 = .ok (.dup, 1) := by decide +kernel
theorem dJ7_rangeCheck_23922_68 : decode cJ7_rangeCheck_23922 68 = .ok (.iload_n 2, 1) := by decide +kernel
theorem dJ7_rangeCheck_23922_69 : decode cJ7_rangeCheck_23922 69 = .ok (.invokespecial 70, 3) := by decide +kernel
theorem dJ7_rangeCheck_23922_72 : decode cJ7_rangeCheck_23922 72 = .ok (.athrow, 1) := by decide +kernel
theorem dJ7_rangeCheck_23922_73 : decode cJ7_rangeCheck_23922 73 = .ok (.return_, 1) := by decide +kernel
theorem dJ7_fill_53178_0 : decode cJ7_fill_53178 0 = .ok (.iconst 0, 1) := by decide +kernel
theorem dJ7_fill_53178_1 : decode cJ7_fill_53178 1 = .ok (.istore_n 2, 1) := by decide +kernel
theorem dJ7_fill_53178_2 : decode cJ7_fill_53178 2 = .ok (.aload_n 0, 1) := by decide +kernel
theorem dJ7_fill_53178_3 : decode cJ7_fill_53178 3 = .ok (.arraylength, 1) := by decide +kernel
theorem dJ7_fill_53178_4 : decode cJ7_fill_53178 4 = .ok (.istore_n 3, 1) := by decide +kernel
theorem dJ7_fill_53178_5 : decode cJ7_fill_53178 5 = .ok (.iload_n 2, 1) := by decide +kernel
theorem dJ7_fill_53178_6 : decode cJ7_fill_53178 6 = .ok (.iload_n 3, 1) := by decide +kernel
theorem dJ7_fill_53178_7 : decode cJ7_fill_53178 7 = .ok (.if_icmp .ge 13, 3) := by decide +kernel
theorem dJ7_fill_53178_10 : decode cJ7_fill_53178 10 = .ok (.aload_n 0, 1) := by decide +kernel
theorem dJ7_fill_53178_11 : decode cJ7_fill_53178 11 = .ok (.iload_n 2, 1) := by decide +kernel
theorem dJ7_fill_53178_12 : decode cJ7_fill_53178 12 = .ok (.iload_n 1, 1) := by decide +kernel
theorem dJ7_fill_53178_13 : decode cJ7_fill_53178 13 = .ok (.iastore, 1) := by decide +kernel
theorem dJ7_fill_53178_14 : decode cJ7_fill_53178 14 = .ok (.iinc 2 1, 3) := by decide +kernel
theorem dJ7_fill_53178_17 : decode cJ7_fill_53178 17 = .ok (.goto (-12), 3) := by decide +kernel
theorem dJ7_fill_53178_20 : decode cJ7_fill_53178 20 = .ok (.return_, 1) := by decide +kernel
set_option maxRecDepth 20000 in
theorem ggJ7_fill_fda19_J7_rangeCheck_23922 : GoodIn wsJ7_fill_fda19 wsJ7_rangeCheck_23922 := goodIn_r _ [4, 5, 6, 7, 8, 9, 10, 11] (by decide +kernel) (by decide +kernel)
set_option maxRecDepth 20000 in
theorem gJ7_fill_fda19_J7_rangeCheck_23922 : GoodIn wsJ7_fill_fda19 (va_wsS RJ7 13 yJ7_rangeCheck_23922 wsJ7_rangeCheck_23922) := goodIn_app (goodIn_of _ (by decide +kernel)) ggJ7_fill_fda19_J7_rangeCheck_23922
theorem dJ7_fill_fda19_0 : decode cJ7_fill_fda19 0 = .ok (.aload_n 0, 1) := by decide +kernel
theorem dJ7_fill_fda19_1 : decode cJ7_fill_fda19 1 = .ok (.arraylength, 1) := by decide +kernel
theorem dJ7_fill_fda19_2 : decode cJ7_fill_fda19 2 = .ok (.iload_n 1, 1) := by decide +kernel
theorem dJ7_fill_fda19_3 : decode cJ7_fill_fda19 3 = .ok (.iload_n 2, 1) := by decide +kernel
theorem dJ7_fill_fda19_4 : decode cJ7_fill_fda19 4 = .ok (.invokestatic 13, 3) := by decide +kernel
theorem dJ7_fill_fda19_7 : decode cJ7_fill_fda19 7 = .ok (.iload_n 1, 1) := by decide +kernel
theorem dJ7_fill_fda19_8 : decode cJ7_fill_fda19 8 = .ok (.istore 4, 2) := by decide +kernel
theorem dJ7_fill_fda19_10 : decode cJ7_fill_fda19 10 = .ok (.iload 4, 2) := by decide +kernel
theorem dJ7_fill_fda19_12 : decode cJ7_fill_fda19 12 = .ok (.iload_n 2, 1) := by decide +kernel
theorem dJ7_fill_fda19_13 : decode cJ7_fill_fda19 13 = .ok (.if_icmp .ge 14, 3) := by decide +kernel
theorem dJ7_fill_fda19_16 : decode cJ7_fill_fda19 16 = .ok (.aload_n 0, 1) := by decide +kernel
theorem dJ7_fill_fda19_17 : decode cJ7_fill_fda19 17 = .ok (.iload 4, 2) := by decide +kernel
theorem dJ7_fill_fda19_19 : decode cJ7_fill_fda19 19 = .ok (.iload_n 3, 1) := by decide +kernel
theorem dJ7_fill_fda19_20 : decode cJ7_fill_fda19 20 = .ok (.iastore, 1) := by decide +kernel
theorem dJ7_fill_fda19_21 : decode cJ7_fill_fda19 21 = .ok (.iinc 4 1, 3) := by decide +kernel
theorem dJ7_fill_fda19_24 : decode cJ7_fill_fda19 24 = .ok (.goto (-14), 3) := by decide +kernel
theorem dJ7_fill_fda19_27 : decode cJ7_fill_fda19 27 = .ok (.return_, 1) := by decide +kernel
theorem dJ7_copyOf_59c91_0 : decode cJ7_copyOf_59c91 0 = .ok (.iload_n 1, 1) := by decide +kernel
theorem dJ7_copyOf_59c91_1 : decode cJ7_copyOf_59c91 1 = .ok (.aload_n 0, 1) := by decide +kernel
theorem dJ7_copyOf_59c91_2 : decode cJ7_copyOf_59c91 2 = .ok (.arraylength, 1) := by decide +kernel
theorem dJ7_copyOf_59c91_3 : decode cJ7_copyOf_59c91 3 = .ok (.if_icmp .ne 11, 3) := by decide +kernel
theorem dJ7_copyOf_59c91_6 : decode cJ7_copyOf_59c91 6 = .ok (.aload_n 0, 1) := by decide +kernel
theorem dJ7_copyOf_59c91_7 : decode cJ7_copyOf_59c91 7 = .ok (.invokevirtual 316, 3) := by decide +kernel
theorem dJ7_copyOf_59c91_10 : decode cJ7_copyOf_59c91 10 = .ok (.checkcast 317, 3) := by decide +kernel
theorem dJ7_copyOf_59c91_13 : decode cJ7_copyOf_59c91 13 = .ok (.areturn, 1) := by decide +kernel
theorem dJ7_copyOf_59c91_14 : decode cJ7_copyOf_59c91 14 = .ok (.iload_n 1, 1) := by decide +kernel
theorem dJ7_copyOf_59c91_15 : decode cJ7_copyOf_59c91 15 = .ok (.newarray .int, 2) := by decide +kernel
theorem dJ7_copyOf_59c91_17 : decode cJ7_copyOf_59c91 17 = .ok (.astore_n 2, 1) := by decide +kernel
theorem dJ7_copyOf_59c91_18 : decode cJ7_copyOf_59c91 18 = .ok (.aload_n 0, 1) := by decide +kernel
theorem dJ7_copyOf_59c91_19 : decode cJ7_copyOf_59c91 19 = .ok (.iconst 0, 1) := by decide +kernel
theorem dJ7_copyOf_59c91_20 : decode cJ7_copyOf_59c91 20 = .ok (.aload_n 2, 1) := by decide +kernel
theorem dJ7_copyOf_59c91_21 : decode cJ7_copyOf_59c91 21 = .ok (.iconst 0, 1) := by decide +kernel
theorem dJ7_copyOf_59c91_22 : decode cJ7_copyOf_59c91 22 = .ok (.aload_n 0, 1) := by decide +kernel
theorem dJ7_copyOf_59c91_23 : decode cJ7_copyOf_59c91 23 = .ok (.arraylength, 1) := by decide +kernel
theorem dJ7_copyOf_59c91_24 : decode cJ7_copyOf_59c91 24 = .ok (.iload_n 1, 1) := by decide +kernel
theorem dJ7_copyOf_59c91_25 : decode cJ7_copyOf_59c91 25 = .ok (.invokestatic 304, 3) := by decide +kernel
theorem dJ7_copyOf_59c91_28 : decode cJ7_copyOf_59c91 28 = .ok (.invokestatic 150, 3) := by decide +kernel
theorem dJ7_copyOf_59c91_31 : decode cJ7_copyOf_59c91 31 = .ok (.aload_n 2, 1) := by decide +kernel
theorem dJ7_copyOf_59c91_32 : decode cJ7_copyOf_59c91 32 = .ok (.areturn, 1) := by decide +kernel
set_option maxRecDepth 20000 in
theorem ggX0_init_X4_init : GoodIn wsX0_init wsX4_init := goodIn_r _ [12, 13, 2, 3, 14, 15, 16, 17, 18] (by decide +kernel) (by decide +kernel)
set_option maxRecDepth 20000 in
theorem gX0_init_X4_init_n9 : GoodIn wsX0_init (wsX4_init) := ggX0_init_X4_init
theorem dX0_init_0 : decode cX0_init 0 = .ok (.aload_n 0, 1) := by decide +kernel
theorem dX0_init_1 : decode cX0_init 1 = .ok (.invokespecial 1, 3) := by decide +kernel
theorem dX0_init_4 : decode cX0_init 4 = .ok (.aload_n 0, 1) := by decide +kernel
theorem dX0_init_5 : decode cX0_init 5 = .ok (.new 7, 3) := by decide +kernel
theorem dX0_init_8 : decode cX0_init 8 = .ok (.dup, 1) := by decide +kernel
theorem dX0_init_9 : decode cX0_init 9 = .ok (.invokespecial 9, 3) := by decide +kernel
theorem dX0_init_12 : decode cX0_init 12 = .ok (.putfield 10, 3) := by decide +kernel
theorem dX0_init_15 : decode cX0_init 15 = .ok (.aload_n 0, 1) := by decide +kernel
theorem dX0_init_16 : decode cX0_init 16 = .ok (.new 7, 3) := by decide +kernel
theorem dX0_init_19 : decode cX0_init 19 = .ok (.dup, 1) := by decide +kernel
theorem dX0_init_20 : decode cX0_init 20 = .ok (.invokespecial 9, 3) := by decide +kernel
theorem dX0_init_23 : decode cX0_init 23 = .ok (.putfield 16, 3) := by decide +kernel
theorem dX0_init_26 : decode cX0_init 26 = .ok (.aload_n 0, 1) := by decide +kernel
theorem dX0_init_27 : decode cX0_init 27 = .ok (.new 7, 3) := by decide +kernel
theorem dX0_init_30 : decode cX0_init 30 = .ok (.dup, 1) := by decide +kernel
theorem dX0_init_31 : decode cX0_init 31 = .ok (.invokespecial 9, 3) := by decide +kernel
theorem dX0_init_34 : decode cX0_init 34 = .ok (.putfield 19, 3) := by decide +kernel
theorem dX0_init_37 : decode cX0_init 37 = .ok (.aload_n 0, 1) := by decide +kernel
theorem dX0_init_38 : decode cX0_init 38 = .ok (.aload_n 1, 1) := by decide +kernel
theorem dX0_init_39 : decode cX0_init 39 = .ok (.putfield 22, 3) := by decide +kernel
theorem dX0_init_42 : decode cX0_init 42 = .ok (.return_, 1) := by decide +kernel
theorem dX0_clauses_0 : decode cX0_clauses 0 = .ok (.aload_n 0, 1) := by decide +kernel
theorem dX0_clauses_1 : decode cX0_clauses 1 = .ok (.getfield 16, 3) := by decide +kernel
theorem dX0_clauses_4 : decode cX0_clauses 4 = .ok (.getfield 26, 3) := by decide +kernel
theorem dX0_clauses_7 : decode cX0_clauses 7 = .ok (.iconst 1, 1) := by decide +kernel
theorem dX0_clauses_8 : decode cX0_clauses 8 = .ok (.isub, 1) := by decide +kernel
theorem dX0_clauses_9 : decode cX0_clauses 9 = .ok (.ireturn, 1) := by decide +kernel
theorem dX0_length_0 : decode cX0_length 0 = .ok (.aload_n 0, 1) := by decide +kernel
theorem dX0_length_1 : decode cX0_length 1 = .ok (.getfield 16, 3) := by decide +kernel
theorem dX0_length_4 : decode cX0_length 4 = .ok (.getfield 30, 3) := by decide +kernel
theorem dX0_length_7 : decode cX0_length 7 = .ok (.iload_n 1, 1) := by decide +kernel
theorem dX0_length_8 : decode cX0_length 8 = .ok (.iconst 1, 1) := by decide +kernel
theorem dX0_length_9 : decode cX0_length 9 = .ok (.iadd, 1) := by decide +kernel
theorem dX0_length_10 : decode cX0_length 10 = .ok (.iaload, 1) := by decide +kernel
theorem dX0_length_11 : decode cX0_length 11 = .ok (.aload_n 0, 1) := by decide +kernel
theorem dX0_length_12 : decode cX0_length 12 = .ok (.getfield 16, 3) := by decide +kernel
theorem dX0_length_15 : decode cX0_length 15 = .ok (.getfield 30, 3) := by decide +kernel
theorem dX0_length_18 : decode cX0_length 18 = .ok (.iload_n 1, 1) := by decide +kernel
theorem dX0_length_19 : decode cX0_length 19 = .ok (.iaload, 1) := by decide +kernel
theorem dX0_length_20 : decode cX0_length 20 = .ok (.isub, 1) := by decide +kernel
theorem dX0_length_21 : decode cX0_length 21 = .ok (.ireturn, 1) := by decide +kernel
theorem dX0_literalOf_0 : decode cX0_literalOf 0 = .ok (.aload_n 0, 1) := by decide +kernel
theorem dX0_literalOf_1 : decode cX0_literalOf 1 = .ok (.getfield 10, 3) := by decide +kernel
theorem dX0_literalOf_4 : decode cX0_literalOf 4 = .ok (.getfield 30, 3) := by decide +kernel
theorem dX0_literalOf_7 : decode cX0_literalOf 7 = .ok (.aload_n 0, 1) := by decide +kernel
theorem dX0_literalOf_8 : decode cX0_literalOf 8 = .ok (.getfield 16, 3) := by decide +kernel
theorem dX0_literalOf_11 : decode cX0_literalOf 11 = .ok (.getfield 30, 3) := by decide +kernel
theorem dX0_literalOf_14 : decode cX0_literalOf 14 = .ok (.iload_n 1, 1) := by decide +kernel
theorem dX0_literalOf_15 : decode cX0_literalOf 15 = .ok (.iaload, 1) := by decide +kernel
theorem dX0_literalOf_16 : decode cX0_literalOf 16 = .ok (.iload_n 2, 1) := by decide +kernel
theorem dX0_literalOf_17 : decode cX0_literalOf 17 = .ok (.iadd, 1) := by decide +kernel
theorem dX0_literalOf_18 : decode cX0_literalOf 18 = .ok (.iaload, 1) := by decide +kernel
theorem dX0_literalOf_19 : decode cX0_literalOf 19 = .ok (.ireturn, 1) := by decide +kernel
theorem dX0_threes_0 : decode cX0_threes 0 = .ok (.aload_n 0, 1) := by decide +kernel
theorem dX0_threes_1 : decode cX0_threes 1 = .ok (.getfield 19, 3) := by decide +kernel
theorem dX0_threes_4 : decode cX0_threes 4 = .ok (.getfield 26, 3) := by decide +kernel
theorem dX0_threes_7 : decode cX0_threes 7 = .ok (.iconst 3, 1) := by decide +kernel
theorem dX0_threes_8 : decode cX0_threes 8 = .ok (.idiv, 1) := by decide +kernel
theorem dX0_threes_9 : decode cX0_threes 9 = .ok (.ireturn, 1) := by decide +kernel
theorem dX0_literalOfThree_0 : decode cX0_literalOfThree 0 = .ok (.aload_n 0, 1) := by decide +kernel
theorem dX0_literalOfThree_1 : decode cX0_literalOfThree 1 = .ok (.getfield 19, 3) := by decide +kernel
theorem dX0_literalOfThree_4 : decode cX0_literalOfThree 4 = .ok (.getfield 30, 3) := by decide +kernel
theorem dX0_literalOfThree_7 : decode cX0_literalOfThree 7 = .ok (.iconst 3, 1) := by decide +kernel
theorem dX0_literalOfThree_8 : decode cX0_literalOfThree 8 = .ok (.iload_n 1, 1) := by decide +kernel
theorem dX0_literalOfThree_9 : decode cX0_literalOfThree 9 = .ok (.imul, 1) := by decide +kernel
theorem dX0_literalOfThree_10 : decode cX0_literalOfThree 10 = .ok (.iload_n 2, 1) := by decide +kernel
theorem dX0_literalOfThree_11 : decode cX0_literalOfThree 11 = .ok (.iadd, 1) := by decide +kernel
theorem dX0_literalOfThree_12 : decode cX0_literalOfThree 12 = .ok (.iaload, 1) := by decide +kernel
theorem dX0_literalOfThree_13 : decode cX0_literalOfThree 13 = .ok (.ireturn, 1) := by decide +kernel
set_option maxRecDepth 20000 in
theorem ggX0_cellVariable_X3_cells : GoodIn wsX0_cellVariable wsX3_cells := goodIn_r _ [7, 8, 18, 19, 20, 21, 22, 23, 24, 25, 26, 27] (by decide +kernel) (by decide +kernel)
set_option maxRecDepth 20000 in
theorem gX0_cellVariable_X3_cells : GoodIn wsX0_cellVariable (wsV RX0 34 RX3 yX3_cells wsX3_cells) := goodIn_app (goodIn_of _ (by decide +kernel)) ggX0_cellVariable_X3_cells
theorem dX0_cellVariable_0 : decode cX0_cellVariable 0 = .ok (.iload_n 1, 1) := by decide +kernel
theorem dX0_cellVariable_1 : decode cX0_cellVariable 1 = .ok (.aload_n 0, 1) := by decide +kernel
theorem dX0_cellVariable_2 : decode cX0_cellVariable 2 = .ok (.getfield 22, 3) := by decide +kernel
theorem dX0_cellVariable_5 : decode cX0_cellVariable 5 = .ok (.invokevirtual 34, 3) := by decide +kernel
theorem dX0_cellVariable_8 : decode cX0_cellVariable 8 = .ok (.imul, 1) := by decide +kernel
theorem dX0_cellVariable_9 : decode cX0_cellVariable 9 = .ok (.iload_n 2, 1) := by decide +kernel
theorem dX0_cellVariable_10 : decode cX0_cellVariable 10 = .ok (.iadd, 1) := by decide +kernel
theorem dX0_cellVariable_11 : decode cX0_cellVariable 11 = .ok (.aload_n 0, 1) := by decide +kernel
theorem dX0_cellVariable_12 : decode cX0_cellVariable 12 = .ok (.getfield 22, 3) := by decide +kernel
theorem dX0_cellVariable_15 : decode cX0_cellVariable 15 = .ok (.getfield 40, 3) := by decide +kernel
theorem dX0_cellVariable_18 : decode cX0_cellVariable 18 = .ok (.imul, 1) := by decide +kernel
theorem dX0_cellVariable_19 : decode cX0_cellVariable 19 = .ok (.iload_n 3, 1) := by decide +kernel
theorem dX0_cellVariable_20 : decode cX0_cellVariable 20 = .ok (.iadd, 1) := by decide +kernel
theorem dX0_cellVariable_21 : decode cX0_cellVariable 21 = .ok (.ireturn, 1) := by decide +kernel
set_option maxRecDepth 20000 in
theorem ggX0_headVariable_X3_cells : GoodIn wsX0_headVariable wsX3_cells := goodIn_r _ [7, 8, 18, 19, 20, 21, 22, 23, 24, 25, 26, 27] (by decide +kernel) (by decide +kernel)
set_option maxRecDepth 20000 in
theorem gX0_headVariable_X3_cells : GoodIn wsX0_headVariable (wsV RX0 34 RX3 yX3_cells wsX3_cells) := goodIn_app (goodIn_of _ (by decide +kernel)) ggX0_headVariable_X3_cells
theorem dX0_headVariable_0 : decode cX0_headVariable 0 = .ok (.aload_n 0, 1) := by decide +kernel
theorem dX0_headVariable_1 : decode cX0_headVariable 1 = .ok (.getfield 43, 3) := by decide +kernel
theorem dX0_headVariable_4 : decode cX0_headVariable 4 = .ok (.iload_n 1, 1) := by decide +kernel
theorem dX0_headVariable_5 : decode cX0_headVariable 5 = .ok (.aload_n 0, 1) := by decide +kernel
theorem dX0_headVariable_6 : decode cX0_headVariable 6 = .ok (.getfield 22, 3) := by decide +kernel
theorem dX0_headVariable_9 : decode cX0_headVariable 9 = .ok (.invokevirtual 34, 3) := by decide +kernel
theorem dX0_headVariable_12 : decode cX0_headVariable 12 = .ok (.imul, 1) := by decide +kernel
theorem dX0_headVariable_13 : decode cX0_headVariable 13 = .ok (.iadd, 1) := by decide +kernel
theorem dX0_headVariable_14 : decode cX0_headVariable 14 = .ok (.iload_n 2, 1) := by decide +kernel
theorem dX0_headVariable_15 : decode cX0_headVariable 15 = .ok (.iadd, 1) := by decide +kernel
theorem dX0_headVariable_16 : decode cX0_headVariable 16 = .ok (.ireturn, 1) := by decide +kernel
theorem dX0_stateVariable_0 : decode cX0_stateVariable 0 = .ok (.aload_n 0, 1) := by decide +kernel
theorem dX0_stateVariable_1 : decode cX0_stateVariable 1 = .ok (.getfield 46, 3) := by decide +kernel
theorem dX0_stateVariable_4 : decode cX0_stateVariable 4 = .ok (.iload_n 1, 1) := by decide +kernel
theorem dX0_stateVariable_5 : decode cX0_stateVariable 5 = .ok (.aload_n 0, 1) := by decide +kernel
theorem dX0_stateVariable_6 : decode cX0_stateVariable 6 = .ok (.getfield 22, 3) := by decide +kernel
theorem dX0_stateVariable_9 : decode cX0_stateVariable 9 = .ok (.getfield 49, 3) := by decide +kernel
theorem dX0_stateVariable_12 : decode cX0_stateVariable 12 = .ok (.imul, 1) := by decide +kernel
theorem dX0_stateVariable_13 : decode cX0_stateVariable 13 = .ok (.iadd, 1) := by decide +kernel
theorem dX0_stateVariable_14 : decode cX0_stateVariable 14 = .ok (.iload_n 2, 1) := by decide +kernel
theorem dX0_stateVariable_15 : decode cX0_stateVariable 15 = .ok (.iadd, 1) := by decide +kernel
theorem dX0_stateVariable_16 : decode cX0_stateVariable 16 = .ok (.ireturn, 1) := by decide +kernel
theorem dX0_choiceVariable_0 : decode cX0_choiceVariable 0 = .ok (.aload_n 0, 1) := by decide +kernel
theorem dX0_choiceVariable_1 : decode cX0_choiceVariable 1 = .ok (.getfield 52, 3) := by decide +kernel
theorem dX0_choiceVariable_4 : decode cX0_choiceVariable 4 = .ok (.iload_n 1, 1) := by decide +kernel
theorem dX0_choiceVariable_5 : decode cX0_choiceVariable 5 = .ok (.aload_n 0, 1) := by decide +kernel
theorem dX0_choiceVariable_6 : decode cX0_choiceVariable 6 = .ok (.getfield 22, 3) := by decide +kernel
theorem dX0_choiceVariable_9 : decode cX0_choiceVariable 9 = .ok (.getfield 55, 3) := by decide +kernel
theorem dX0_choiceVariable_12 : decode cX0_choiceVariable 12 = .ok (.iconst 1, 1) := by decide +kernel
theorem dX0_choiceVariable_13 : decode cX0_choiceVariable 13 = .ok (.iadd, 1) := by decide +kernel
theorem dX0_choiceVariable_14 : decode cX0_choiceVariable 14 = .ok (.imul, 1) := by decide +kernel
theorem dX0_choiceVariable_15 : decode cX0_choiceVariable 15 = .ok (.iadd, 1) := by decide +kernel
theorem dX0_choiceVariable_16 : decode cX0_choiceVariable 16 = .ok (.iload_n 2, 1) := by decide +kernel
theorem dX0_choiceVariable_17 : decode cX0_choiceVariable 17 = .ok (.iadd, 1) := by decide +kernel
theorem dX0_choiceVariable_18 : decode cX0_choiceVariable 18 = .ok (.ireturn, 1) := by decide +kernel
set_option maxRecDepth 20000 in
theorem ggX0_write_X0_numberVariables : GoodIn wsX0_write wsX0_numberVariables := goodIn_r _ [10, 4, 11, 12, 13, 14, 15, 5, 16, 17, 18, 19, 20, 21, 22, 23, 24, 25, 26, 27, 160, 161, 162, 163, 164, 165, 166, 167, 168, 171, 172, 173, 174, 175, 176, 177, 178, 179, 180] (by decide +kernel) (by decide +kernel)
set_option maxRecDepth 20000 in
theorem gX0_write_X0_numberVariables : GoodIn wsX0_write (wsV RX0 58 RX0 yX0_numberVariables wsX0_numberVariables) := goodIn_app (goodIn_of _ (by decide +kernel)) ggX0_write_X0_numberVariables
set_option maxRecDepth 20000 in
theorem ggX0_write_X4_add : GoodIn wsX0_write wsX4_add := goodIn_r _ [32, 33, 34, 35, 36, 37, 38, 39, 40, 41, 42, 43, 44, 45, 46, 47, 48, 49, 50, 51, 52, 53, 169, 170] (by decide +kernel) (by decide +kernel)
set_option maxRecDepth 20000 in
theorem gX0_write_X4_add : GoodIn wsX0_write (wsV RX0 61 RX4 yX4_add wsX4_add) := goodIn_app (goodIn_of _ (by decide +kernel)) ggX0_write_X4_add
set_option maxRecDepth 20000 in
theorem ggX0_write_X0_writeRows : GoodIn wsX0_write wsX0_writeRows := goodIn_r _ [57, 4, 11, 14, 18, 19, 20, 21, 22, 23, 24, 25, 26, 27, 58, 59, 60, 9, 61, 62, 63, 64, 65, 66, 67, 68, 69, 1, 3, 2, 70, 71, 72, 28, 29, 30, 31, 32, 33, 34, 35, 36, 37, 38, 39, 40, 41, 42, 43, 44, 45, 46, 47, 48, 49, 50, 51, 52, 53, 73, 74, 75, 76, 77, 78, 79, 80, 81, 82, 12, 83, 84, 85, 86, 13, 160, 161, 162, 163, 164, 165, 166, 167, 168, 171, 172, 173, 174, 175, 176, 177, 178, 179, 180, 169, 170] (by decide +kernel) (by decide +kernel)
set_option maxRecDepth 20000 in
theorem gX0_write_X0_writeRows : GoodIn wsX0_write (wsV RX0 65 RX0 yX0_writeRows wsX0_writeRows) := goodIn_app (goodIn_of _ (by decide +kernel)) ggX0_write_X0_writeRows
set_option maxRecDepth 20000 in
theorem ggX0_write_X0_writeEnds : GoodIn wsX0_write wsX0_writeEnds := goodIn_r _ [90, 4, 91, 5, 24, 25, 26, 21, 27, 23, 58, 59, 60, 9, 61, 11, 70, 71, 72, 92, 93, 94, 95, 1, 3, 2, 28, 29, 30, 31, 32, 33, 34, 35, 36, 37, 38, 39, 40, 41, 42, 43, 44, 45, 46, 47, 48, 49, 50, 51, 52, 53, 79, 80, 81, 82, 12, 83, 84, 85, 86, 13, 14, 96, 97, 98, 99, 100, 160, 161, 162, 163, 164, 165, 166, 167, 168, 171, 172, 173, 174, 175, 176, 177, 178, 179, 180, 169, 170] (by decide +kernel) (by decide +kernel)
set_option maxRecDepth 20000 in
theorem gX0_write_X0_writeEnds : GoodIn wsX0_write (wsV RX0 68 RX0 yX0_writeEnds wsX0_writeEnds) := goodIn_app (goodIn_of _ (by decide +kernel)) ggX0_write_X0_writeEnds
set_option maxRecDepth 20000 in
theorem ggX0_write_X0_writeStep : GoodIn wsX0_write wsX0_writeStep := goodIn_r _ [104, 4, 16, 11, 105, 106, 107, 9, 108, 15, 66, 67, 68, 69, 1, 3, 2, 70, 71, 72, 28, 29, 30, 31, 32, 33, 34, 35, 36, 37, 38, 39, 40, 41, 42, 43, 44, 45, 46, 47, 48, 49, 50, 51, 52, 53, 109, 110, 111, 112, 113, 114, 115, 116, 117, 73, 74, 83, 84, 85, 86, 13, 14, 75, 76, 77, 78, 24, 25, 26, 21, 27, 23, 79, 80, 81, 82, 12, 58, 59, 60, 61, 118, 119, 120, 121, 122, 123, 124, 125, 126, 127, 96, 97, 98, 99, 100, 128, 129, 130, 131, 160, 161, 162, 163, 164, 165, 166, 167, 168, 171, 172, 173, 174, 175, 176, 177, 178, 179, 180, 169, 170] (by decide +kernel) (by decide +kernel)
set_option maxRecDepth 20000 in
theorem gX0_write_X0_writeStep : GoodIn wsX0_write (wsV RX0 74 RX0 yX0_writeStep wsX0_writeStep) := goodIn_app (goodIn_of _ (by decide +kernel)) ggX0_write_X0_writeStep
set_option maxRecDepth 20000 in
theorem ggX0_write_X0_writeThrees : GoodIn wsX0_write wsX0_writeThrees := goodIn_r _ [135, 17, 136, 137, 2, 138, 47, 48, 49, 139, 140, 141, 9, 142, 3, 143, 144, 145, 146, 147, 148, 149, 150, 151, 152, 153, 154, 155, 1, 70, 71, 72, 156, 157, 158, 159, 28, 29, 30, 31, 32, 33, 34, 35, 36, 37, 38, 39, 40, 41, 42, 43, 44, 45, 46, 50, 51, 52, 53, 73, 74, 160, 161, 162, 163, 164, 165, 166, 167, 168, 169, 170] (by decide +kernel) (by decide +kernel)
set_option maxRecDepth 20000 in
theorem gX0_write_X0_writeThrees : GoodIn wsX0_write (wsV RX0 77 RX0 yX0_writeThrees wsX0_writeThrees) := goodIn_app (goodIn_of _ (by decide +kernel)) ggX0_write_X0_writeThrees
theorem dX0_write_0 : decode cX0_write 0 = .ok (.aload_n 0, 1) := by decide +kernel
theorem dX0_write_1 : decode cX0_write 1 = .ok (.invokevirtual 58, 3) := by decide +kernel
theorem dX0_write_4 : decode cX0_write 4 = .ok (.aload_n 0, 1) := by decide +kernel
theorem dX0_write_5 : decode cX0_write 5 = .ok (.getfield 10, 3) := by decide +kernel
theorem dX0_write_8 : decode cX0_write 8 = .ok (.iconst 0, 1) := by decide +kernel
theorem dX0_write_9 : decode cX0_write 9 = .ok (.putfield 26, 3) := by decide +kernel
theorem dX0_write_12 : decode cX0_write 12 = .ok (.aload_n 0, 1) := by decide +kernel
theorem dX0_write_13 : decode cX0_write 13 = .ok (.getfield 16, 3) := by decide +kernel
theorem dX0_write_16 : decode cX0_write 16 = .ok (.iconst 0, 1) := by decide +kernel
theorem dX0_write_17 : decode cX0_write 17 = .ok (.putfield 26, 3) := by decide +kernel
theorem dX0_write_20 : decode cX0_write 20 = .ok (.aload_n 0, 1) := by decide +kernel
theorem dX0_write_21 : decode cX0_write 21 = .ok (.getfield 16, 3) := by decide +kernel
theorem dX0_write_24 : decode cX0_write 24 = .ok (.iconst 0, 1) := by decide +kernel
theorem dX0_write_25 : decode cX0_write 25 = .ok (.invokevirtual 61, 3) := by decide +kernel
theorem dX0_write_28 : decode cX0_write 28 = .ok (.aload_n 0, 1) := by decide +kernel
theorem dX0_write_29 : decode cX0_write 29 = .ok (.invokevirtual 65, 3) := by decide +kernel
theorem dX0_write_32 : decode cX0_write 32 = .ok (.aload_n 0, 1) := by decide +kernel
theorem dX0_write_33 : decode cX0_write 33 = .ok (.invokevirtual 68, 3) := by decide +kernel
theorem dX0_write_36 : decode cX0_write 36 = .ok (.iconst 0, 1) := by decide +kernel
theorem dX0_write_37 : decode cX0_write 37 = .ok (.istore_n 1, 1) := by decide +kernel
theorem dX0_write_38 : decode cX0_write 38 = .ok (.iload_n 1, 1) := by decide +kernel
theorem dX0_write_39 : decode cX0_write 39 = .ok (.aload_n 0, 1) := by decide +kernel
theorem dX0_write_40 : decode cX0_write 40 = .ok (.getfield 22, 3) := by decide +kernel
theorem dX0_write_43 : decode cX0_write 43 = .ok (.getfield 71, 3) := by decide +kernel
theorem dX0_write_46 : decode cX0_write 46 = .ok (.if_icmp .ge 14, 3) := by decide +kernel
theorem dX0_write_49 : decode cX0_write 49 = .ok (.aload_n 0, 1) := by decide +kernel
theorem dX0_write_50 : decode cX0_write 50 = .ok (.iload_n 1, 1) := by decide +kernel
theorem dX0_write_51 : decode cX0_write 51 = .ok (.invokevirtual 74, 3) := by decide +kernel
theorem dX0_write_54 : decode cX0_write 54 = .ok (.iinc 1 1, 3) := by decide +kernel
theorem dX0_write_57 : decode cX0_write 57 = .ok (.goto (-19), 3) := by decide +kernel
theorem dX0_write_60 : decode cX0_write 60 = .ok (.aload_n 0, 1) := by decide +kernel
theorem dX0_write_61 : decode cX0_write 61 = .ok (.invokevirtual 77, 3) := by decide +kernel
theorem dX0_write_64 : decode cX0_write 64 = .ok (.return_, 1) := by decide +kernel
set_option maxRecDepth 20000 in
theorem ggX0_numberVariables_X3_rows : GoodIn wsX0_numberVariables wsX3_rows := goodIn_r _ [14, 15, 29, 30, 31, 32, 33, 34, 35, 36, 37, 38] (by decide +kernel) (by decide +kernel)
set_option maxRecDepth 20000 in
theorem gX0_numberVariables_X3_rows : GoodIn wsX0_numberVariables (wsV RX0 80 RX3 yX3_rows wsX3_rows) := goodIn_app (goodIn_of _ (by decide +kernel)) ggX0_numberVariables_X3_rows
set_option maxRecDepth 20000 in
theorem ggX0_numberVariables_X3_cells : GoodIn wsX0_numberVariables wsX3_cells := goodIn_r _ [19, 15, 29, 30, 31, 32, 33, 34, 35, 36, 37, 38] (by decide +kernel) (by decide +kernel)
set_option maxRecDepth 20000 in
theorem gX0_numberVariables_X3_cells : GoodIn wsX0_numberVariables (wsV RX0 34 RX3 yX3_cells wsX3_cells) := goodIn_app (goodIn_of _ (by decide +kernel)) ggX0_numberVariables_X3_cells
theorem dX0_numberVariables_0 : decode cX0_numberVariables 0 = .ok (.aload_n 0, 1) := by decide +kernel
theorem dX0_numberVariables_1 : decode cX0_numberVariables 1 = .ok (.aload_n 0, 1) := by decide +kernel
theorem dX0_numberVariables_2 : decode cX0_numberVariables 2 = .ok (.getfield 22, 3) := by decide +kernel
theorem dX0_numberVariables_5 : decode cX0_numberVariables 5 = .ok (.invokevirtual 80, 3) := by decide +kernel
theorem dX0_numberVariables_8 : decode cX0_numberVariables 8 = .ok (.aload_n 0, 1) := by decide +kernel
theorem dX0_numberVariables_9 : decode cX0_numberVariables 9 = .ok (.getfield 22, 3) := by decide +kernel
theorem dX0_numberVariables_12 : decode cX0_numberVariables 12 = .ok (.invokevirtual 34, 3) := by decide +kernel
theorem dX0_numberVariables_15 : decode cX0_numberVariables 15 = .ok (.imul, 1) := by decide +kernel
theorem dX0_numberVariables_16 : decode cX0_numberVariables 16 = .ok (.aload_n 0, 1) := by decide +kernel
theorem dX0_numberVariables_17 : decode cX0_numberVariables 17 = .ok (.getfield 22, 3) := by decide +kernel
theorem dX0_numberVariables_20 : decode cX0_numberVariables 20 = .ok (.getfield 40, 3) := by decide +kernel
theorem dX0_numberVariables_23 : decode cX0_numberVariables 23 = .ok (.imul, 1) := by decide +kernel
theorem dX0_numberVariables_24 : decode cX0_numberVariables 24 = .ok (.putfield 43, 3) := by decide +kernel
theorem dX0_numberVariables_27 : decode cX0_numberVariables 27 = .ok (.aload_n 0, 1) := by decide +kernel
theorem dX0_numberVariables_28 : decode cX0_numberVariables 28 = .ok (.aload_n 0, 1) := by decide +kernel
theorem dX0_numberVariables_29 : decode cX0_numberVariables 29 = .ok (.getfield 43, 3) := by decide +kernel
theorem dX0_numberVariables_32 : decode cX0_numberVariables 32 = .ok (.aload_n 0, 1) := by decide +kernel
theorem dX0_numberVariables_33 : decode cX0_numberVariables 33 = .ok (.getfield 22, 3) := by decide +kernel
theorem dX0_numberVariables_36 : decode cX0_numberVariables 36 = .ok (.invokevirtual 80, 3) := by decide +kernel
theorem dX0_numberVariables_39 : decode cX0_numberVariables 39 = .ok (.aload_n 0, 1) := by decide +kernel
theorem dX0_numberVariables_40 : decode cX0_numberVariables 40 = .ok (.getfield 22, 3) := by decide +kernel
theorem dX0_numberVariables_43 : decode cX0_numberVariables 43 = .ok (.invokevirtual 34, 3) := by decide +kernel
theorem dX0_numberVariables_46 : decode cX0_numberVariables 46 = .ok (.imul, 1) := by decide +kernel
theorem dX0_numberVariables_47 : decode cX0_numberVariables 47 = .ok (.iadd, 1) := by decide +kernel
theorem dX0_numberVariables_48 : decode cX0_numberVariables 48 = .ok (.putfield 46, 3) := by decide +kernel
theorem dX0_numberVariables_51 : decode cX0_numberVariables 51 = .ok (.aload_n 0, 1) := by decide +kernel
theorem dX0_numberVariables_52 : decode cX0_numberVariables 52 = .ok (.aload_n 0, 1) := by decide +kernel
theorem dX0_numberVariables_53 : decode cX0_numberVariables 53 = .ok (.getfield 46, 3) := by decide +kernel
theorem dX0_numberVariables_56 : decode cX0_numberVariables 56 = .ok (.aload_n 0, 1) := by decide +kernel
theorem dX0_numberVariables_57 : decode cX0_numberVariables 57 = .ok (.getfield 22, 3) := by decide +kernel
theorem dX0_numberVariables_60 : decode cX0_numberVariables 60 = .ok (.invokevirtual 80, 3) := by decide +kernel
theorem dX0_numberVariables_63 : decode cX0_numberVariables 63 = .ok (.aload_n 0, 1) := by decide +kernel
theorem dX0_numberVariables_64 : decode cX0_numberVariables 64 = .ok (.getfield 22, 3) := by decide +kernel
theorem dX0_numberVariables_67 : decode cX0_numberVariables 67 = .ok (.getfield 49, 3) := by decide +kernel
theorem dX0_numberVariables_70 : decode cX0_numberVariables 70 = .ok (.imul, 1) := by decide +kernel
theorem dX0_numberVariables_71 : decode cX0_numberVariables 71 = .ok (.iadd, 1) := by decide +kernel
theorem dX0_numberVariables_72 : decode cX0_numberVariables 72 = .ok (.putfield 52, 3) := by decide +kernel
theorem dX0_numberVariables_75 : decode cX0_numberVariables 75 = .ok (.aload_n 0, 1) := by decide +kernel
theorem dX0_numberVariables_76 : decode cX0_numberVariables 76 = .ok (.aload_n 0, 1) := by decide +kernel
theorem dX0_numberVariables_77 : decode cX0_numberVariables 77 = .ok (.getfield 52, 3) := by decide +kernel
theorem dX0_numberVariables_80 : decode cX0_numberVariables 80 = .ok (.aload_n 0, 1) := by decide +kernel
theorem dX0_numberVariables_81 : decode cX0_numberVariables 81 = .ok (.getfield 22, 3) := by decide +kernel
theorem dX0_numberVariables_84 : decode cX0_numberVariables 84 = .ok (.getfield 71, 3) := by decide +kernel
theorem dX0_numberVariables_87 : decode cX0_numberVariables 87 = .ok (.aload_n 0, 1) := by decide +kernel
theorem dX0_numberVariables_88 : decode cX0_numberVariables 88 = .ok (.getfield 22, 3) := by decide +kernel
theorem dX0_numberVariables_91 : decode cX0_numberVariables 91 = .ok (.getfield 55, 3) := by decide +kernel
theorem dX0_numberVariables_94 : decode cX0_numberVariables 94 = .ok (.iconst 1, 1) := by decide +kernel
theorem dX0_numberVariables_95 : decode cX0_numberVariables 95 = .ok (.iadd, 1) := by decide +kernel
theorem dX0_numberVariables_96 : decode cX0_numberVariables 96 = .ok (.imul, 1) := by decide +kernel
theorem dX0_numberVariables_97 : decode cX0_numberVariables 97 = .ok (.iadd, 1) := by decide +kernel
theorem dX0_numberVariables_98 : decode cX0_numberVariables 98 = .ok (.putfield 83, 3) := by decide +kernel
theorem dX0_numberVariables_101 : decode cX0_numberVariables 101 = .ok (.return_, 1) := by decide +kernel
set_option maxRecDepth 20000 in
theorem ggX0_writeRows_X3_rows : GoodIn wsX0_writeRows wsX3_rows := goodIn_r _ [8, 9, 84, 85, 86, 87, 88, 89, 90, 91, 92, 93] (by decide +kernel) (by decide +kernel)
set_option maxRecDepth 20000 in
theorem gX0_writeRows_X3_rows : GoodIn wsX0_writeRows (wsV RX0 80 RX3 yX3_rows wsX3_rows) := goodIn_app (goodIn_of _ (by decide +kernel)) ggX0_writeRows_X3_rows
set_option maxRecDepth 20000 in
theorem ggX0_writeRows_X3_cells : GoodIn wsX0_writeRows wsX3_cells := goodIn_r _ [13, 9, 84, 85, 86, 87, 88, 89, 90, 91, 92, 93] (by decide +kernel) (by decide +kernel)
set_option maxRecDepth 20000 in
theorem gX0_writeRows_X3_cells : GoodIn wsX0_writeRows (wsV RX0 34 RX3 yX3_cells wsX3_cells) := goodIn_app (goodIn_of _ (by decide +kernel)) ggX0_writeRows_X3_cells
set_option maxRecDepth 20000 in
theorem ggX0_writeRows_X0_cellVariable : GoodIn wsX0_writeRows wsX0_cellVariable := goodIn_r _ [18, 1, 2, 10, 11, 12, 7, 13, 9, 75, 76, 77, 78, 79, 80, 81, 82, 83, 84, 85, 86, 87, 88, 89, 90, 91, 92, 93] (by decide +kernel) (by decide +kernel)
set_option maxRecDepth 20000 in
theorem gX0_writeRows_X0_cellVariable : GoodIn wsX0_writeRows (wsV RX0 86 RX0 yX0_cellVariable wsX0_cellVariable) := goodIn_app (goodIn_of _ (by decide +kernel)) ggX0_writeRows_X0_cellVariable
set_option maxRecDepth 20000 in
theorem ggX0_writeRows_X0_justOne : GoodIn wsX0_writeRows wsX0_justOne := goodIn_r _ [22, 23, 24, 25, 17, 26, 27, 28, 29, 30, 31, 32, 33, 34, 35, 36, 37, 38, 39, 40, 41, 42, 43, 44, 45, 46, 47, 48, 49, 50, 51, 52, 53, 54, 55, 56, 57, 58, 59, 60, 61, 62, 63, 64, 75, 76, 77, 78, 79, 80, 81, 82, 83, 94, 95] (by decide +kernel) (by decide +kernel)
set_option maxRecDepth 20000 in
theorem gX0_writeRows_X0_justOne : GoodIn wsX0_writeRows (wsV RX0 90 RX0 yX0_justOne wsX0_justOne) := goodIn_app (goodIn_of _ (by decide +kernel)) ggX0_writeRows_X0_justOne
set_option maxRecDepth 20000 in
theorem ggX0_writeRows_X0_headVariable : GoodIn wsX0_writeRows wsX0_headVariable := goodIn_r _ [68, 69, 1, 10, 11, 12, 7, 13, 9, 75, 76, 77, 78, 79, 80, 81, 82, 83, 84, 85, 86, 87, 88, 89, 90, 91, 92, 93] (by decide +kernel) (by decide +kernel)
set_option maxRecDepth 20000 in
theorem gX0_writeRows_X0_headVariable : GoodIn wsX0_writeRows (wsV RX0 94 RX0 yX0_headVariable wsX0_headVariable) := goodIn_app (goodIn_of _ (by decide +kernel)) ggX0_writeRows_X0_headVariable
set_option maxRecDepth 20000 in
theorem ggX0_writeRows_X0_stateVariable : GoodIn wsX0_writeRows wsX0_stateVariable := goodIn_r _ [73, 74, 1, 3, 75, 76, 77, 78, 79, 80, 81, 82, 83, 84, 85, 86, 87, 88, 89, 90, 91, 92, 93] (by decide +kernel) (by decide +kernel)
set_option maxRecDepth 20000 in
theorem gX0_writeRows_X0_stateVariable : GoodIn wsX0_writeRows (wsV RX0 98 RX0 yX0_stateVariable wsX0_stateVariable) := goodIn_app (goodIn_of _ (by decide +kernel)) ggX0_writeRows_X0_stateVariable
theorem dX0_writeRows_0 : decode cX0_writeRows 0 = .ok (.iconst 0, 1) := by decide +kernel
theorem dX0_writeRows_1 : decode cX0_writeRows 1 = .ok (.istore_n 1, 1) := by decide +kernel
theorem dX0_writeRows_2 : decode cX0_writeRows 2 = .ok (.iload_n 1, 1) := by decide +kernel
theorem dX0_writeRows_3 : decode cX0_writeRows 3 = .ok (.aload_n 0, 1) := by decide +kernel
theorem dX0_writeRows_4 : decode cX0_writeRows 4 = .ok (.getfield 22, 3) := by decide +kernel
theorem dX0_writeRows_7 : decode cX0_writeRows 7 = .ok (.invokevirtual 80, 3) := by decide +kernel
theorem dX0_writeRows_10 : decode cX0_writeRows 10 = .ok (.if_icmp .ge 46, 3) := by decide +kernel
theorem dX0_writeRows_13 : decode cX0_writeRows 13 = .ok (.iconst 0, 1) := by decide +kernel
theorem dX0_writeRows_14 : decode cX0_writeRows 14 = .ok (.istore_n 2, 1) := by decide +kernel
theorem dX0_writeRows_15 : decode cX0_writeRows 15 = .ok (.iload_n 2, 1) := by decide +kernel
theorem dX0_writeRows_16 : decode cX0_writeRows 16 = .ok (.aload_n 0, 1) := by decide +kernel
theorem dX0_writeRows_17 : decode cX0_writeRows 17 = .ok (.getfield 22, 3) := by decide +kernel
theorem dX0_writeRows_20 : decode cX0_writeRows 20 = .ok (.invokevirtual 34, 3) := by decide +kernel
theorem dX0_writeRows_23 : decode cX0_writeRows 23 = .ok (.if_icmp .ge 27, 3) := by decide +kernel
theorem dX0_writeRows_26 : decode cX0_writeRows 26 = .ok (.aload_n 0, 1) := by decide +kernel
theorem dX0_writeRows_27 : decode cX0_writeRows 27 = .ok (.aload_n 0, 1) := by decide +kernel
theorem dX0_writeRows_28 : decode cX0_writeRows 28 = .ok (.iload_n 1, 1) := by decide +kernel
theorem dX0_writeRows_29 : decode cX0_writeRows 29 = .ok (.iload_n 2, 1) := by decide +kernel
theorem dX0_writeRows_30 : decode cX0_writeRows 30 = .ok (.iconst 0, 1) := by decide +kernel
theorem dX0_writeRows_31 : decode cX0_writeRows 31 = .ok (.invokevirtual 86, 3) := by decide +kernel
theorem dX0_writeRows_34 : decode cX0_writeRows 34 = .ok (.aload_n 0, 1) := by decide +kernel
theorem dX0_writeRows_35 : decode cX0_writeRows 35 = .ok (.getfield 22, 3) := by decide +kernel
theorem dX0_writeRows_38 : decode cX0_writeRows 38 = .ok (.getfield 40, 3) := by decide +kernel
theorem dX0_writeRows_41 : decode cX0_writeRows 41 = .ok (.invokevirtual 90, 3) := by decide +kernel
theorem dX0_writeRows_44 : decode cX0_writeRows 44 = .ok (.iinc 2 1, 3) := by decide +kernel
theorem dX0_writeRows_47 : decode cX0_writeRows 47 = .ok (.goto (-32), 3) := by decide +kernel
theorem dX0_writeRows_50 : decode cX0_writeRows 50 = .ok (.iinc 1 1, 3) := by decide +kernel
theorem dX0_writeRows_53 : decode cX0_writeRows 53 = .ok (.goto (-51), 3) := by decide +kernel
theorem dX0_writeRows_56 : decode cX0_writeRows 56 = .ok (.iconst 0, 1) := by decide +kernel
theorem dX0_writeRows_57 : decode cX0_writeRows 57 = .ok (.istore_n 1, 1) := by decide +kernel
theorem dX0_writeRows_58 : decode cX0_writeRows 58 = .ok (.iload_n 1, 1) := by decide +kernel
theorem dX0_writeRows_59 : decode cX0_writeRows 59 = .ok (.aload_n 0, 1) := by decide +kernel
theorem dX0_writeRows_60 : decode cX0_writeRows 60 = .ok (.getfield 22, 3) := by decide +kernel
theorem dX0_writeRows_63 : decode cX0_writeRows 63 = .ok (.invokevirtual 80, 3) := by decide +kernel
theorem dX0_writeRows_66 : decode cX0_writeRows 66 = .ok (.if_icmp .ge 26, 3) := by decide +kernel
theorem dX0_writeRows_69 : decode cX0_writeRows 69 = .ok (.aload_n 0, 1) := by decide +kernel
theorem dX0_writeRows_70 : decode cX0_writeRows 70 = .ok (.aload_n 0, 1) := by decide +kernel
theorem dX0_writeRows_71 : decode cX0_writeRows 71 = .ok (.iload_n 1, 1) := by decide +kernel
theorem dX0_writeRows_72 : decode cX0_writeRows 72 = .ok (.iconst 0, 1) := by decide +kernel
theorem dX0_writeRows_73 : decode cX0_writeRows 73 = .ok (.invokevirtual 94, 3) := by decide +kernel
theorem dX0_writeRows_76 : decode cX0_writeRows 76 = .ok (.aload_n 0, 1) := by decide +kernel
theorem dX0_writeRows_77 : decode cX0_writeRows 77 = .ok (.getfield 22, 3) := by decide +kernel
theorem dX0_writeRows_80 : decode cX0_writeRows 80 = .ok (.invokevirtual 34, 3) := by decide +kernel
theorem dX0_writeRows_83 : decode cX0_writeRows 83 = .ok (.invokevirtual 90, 3) := by decide +kernel
theorem dX0_writeRows_86 : decode cX0_writeRows 86 = .ok (.iinc 1 1, 3) := by decide +kernel
theorem dX0_writeRows_89 : decode cX0_writeRows 89 = .ok (.goto (-31), 3) := by decide +kernel
theorem dX0_writeRows_92 : decode cX0_writeRows 92 = .ok (.iconst 0, 1) := by decide +kernel
theorem dX0_writeRows_93 : decode cX0_writeRows 93 = .ok (.istore_n 1, 1) := by decide +kernel
theorem dX0_writeRows_94 : decode cX0_writeRows 94 = .ok (.iload_n 1, 1) := by decide +kernel
theorem dX0_writeRows_95 : decode cX0_writeRows 95 = .ok (.aload_n 0, 1) := by decide +kernel
theorem dX0_writeRows_96 : decode cX0_writeRows 96 = .ok (.getfield 22, 3) := by decide +kernel
theorem dX0_writeRows_99 : decode cX0_writeRows 99 = .ok (.invokevirtual 80, 3) := by decide +kernel
theorem dX0_writeRows_102 : decode cX0_writeRows 102 = .ok (.if_icmp .ge 26, 3) := by decide +kernel
theorem dX0_writeRows_105 : decode cX0_writeRows 105 = .ok (.aload_n 0, 1) := by decide +kernel
theorem dX0_writeRows_106 : decode cX0_writeRows 106 = .ok (.aload_n 0, 1) := by decide +kernel
theorem dX0_writeRows_107 : decode cX0_writeRows 107 = .ok (.iload_n 1, 1) := by decide +kernel
theorem dX0_writeRows_108 : decode cX0_writeRows 108 = .ok (.iconst 0, 1) := by decide +kernel
theorem dX0_writeRows_109 : decode cX0_writeRows 109 = .ok (.invokevirtual 98, 3) := by decide +kernel
theorem dX0_writeRows_112 : decode cX0_writeRows 112 = .ok (.aload_n 0, 1) := by decide +kernel
theorem dX0_writeRows_113 : decode cX0_writeRows 113 = .ok (.getfield 22, 3) := by decide +kernel
theorem dX0_writeRows_116 : decode cX0_writeRows 116 = .ok (.getfield 49, 3) := by decide +kernel
theorem dX0_writeRows_119 : decode cX0_writeRows 119 = .ok (.invokevirtual 90, 3) := by decide +kernel
theorem dX0_writeRows_122 : decode cX0_writeRows 122 = .ok (.iinc 1 1, 3) := by decide +kernel
theorem dX0_writeRows_125 : decode cX0_writeRows 125 = .ok (.goto (-31), 3) := by decide +kernel
theorem dX0_writeRows_128 : decode cX0_writeRows 128 = .ok (.return_, 1) := by decide +kernel
set_option maxRecDepth 20000 in
theorem ggX0_writeEnds_X3_cells : GoodIn wsX0_writeEnds wsX3_cells := goodIn_r _ [8, 9, 77, 78, 79, 80, 81, 82, 83, 84, 85, 86] (by decide +kernel) (by decide +kernel)
set_option maxRecDepth 20000 in
theorem gX0_writeEnds_X3_cells : GoodIn wsX0_writeEnds (wsV RX0 34 RX3 yX3_cells wsX3_cells) := goodIn_app (goodIn_of _ (by decide +kernel)) ggX0_writeEnds_X3_cells
set_option maxRecDepth 20000 in
theorem ggX0_writeEnds_X0_cellVariable : GoodIn wsX0_writeEnds wsX0_cellVariable := goodIn_r _ [14, 1, 15, 4, 5, 6, 7, 8, 9, 68, 69, 70, 71, 72, 73, 74, 75, 76, 77, 78, 79, 80, 81, 82, 83, 84, 85, 86] (by decide +kernel) (by decide +kernel)
set_option maxRecDepth 20000 in
theorem gX0_writeEnds_X0_cellVariable : GoodIn wsX0_writeEnds (wsV RX0 86 RX0 yX0_cellVariable wsX0_cellVariable) := goodIn_app (goodIn_of _ (by decide +kernel)) ggX0_writeEnds_X0_cellVariable
set_option maxRecDepth 20000 in
theorem ggX0_writeEnds_X7_yes : GoodIn wsX0_writeEnds wsX7_yes := goodIn_r _ [18] (by decide +kernel) (by decide +kernel)
set_option maxRecDepth 20000 in
theorem gX0_writeEnds_X7_yes_n104 : GoodIn wsX0_writeEnds (wsX7_yes) := ggX0_writeEnds_X7_yes
set_option maxRecDepth 20000 in
theorem ggX0_writeEnds_X0_clause : GoodIn wsX0_writeEnds wsX0_clause := goodIn_r _ [22, 23, 24, 25, 26, 27, 28, 29, 30, 31, 32, 33, 34, 35, 36, 37, 38, 39, 40, 41, 42, 43, 44, 45, 46, 47, 48, 49, 50, 51, 68, 69, 70, 71, 72, 73, 74, 75, 76, 87, 88] (by decide +kernel) (by decide +kernel)
set_option maxRecDepth 20000 in
theorem gX0_writeEnds_X0_clause : GoodIn wsX0_writeEnds (wsV RX0 110 RX0 yX0_clause wsX0_clause) := goodIn_app (goodIn_of _ (by decide +kernel)) ggX0_writeEnds_X0_clause
set_option maxRecDepth 20000 in
theorem ggX0_writeEnds_X0_headVariable : GoodIn wsX0_writeEnds wsX0_headVariable := goodIn_r _ [55, 56, 1, 4, 5, 6, 7, 8, 9, 68, 69, 70, 71, 72, 73, 74, 75, 76, 77, 78, 79, 80, 81, 82, 83, 84, 85, 86] (by decide +kernel) (by decide +kernel)
set_option maxRecDepth 20000 in
theorem gX0_writeEnds_X0_headVariable : GoodIn wsX0_writeEnds (wsV RX0 94 RX0 yX0_headVariable wsX0_headVariable) := goodIn_app (goodIn_of _ (by decide +kernel)) ggX0_writeEnds_X0_headVariable
set_option maxRecDepth 20000 in
theorem ggX0_writeEnds_X0_stateVariable : GoodIn wsX0_writeEnds wsX0_stateVariable := goodIn_r _ [60, 61, 1, 62, 68, 69, 70, 71, 72, 73, 74, 75, 76, 77, 78, 79, 80, 81, 82, 83, 84, 85, 86] (by decide +kernel) (by decide +kernel)
set_option maxRecDepth 20000 in
theorem gX0_writeEnds_X0_stateVariable : GoodIn wsX0_writeEnds (wsV RX0 98 RX0 yX0_stateVariable wsX0_stateVariable) := goodIn_app (goodIn_of _ (by decide +kernel)) ggX0_writeEnds_X0_stateVariable
set_option maxRecDepth 20000 in
theorem ggX0_writeEnds_X3_accept : GoodIn wsX0_writeEnds wsX3_accept := goodIn_r _ [66, 67, 77, 78, 79, 80, 81, 82, 83, 84, 85, 86] (by decide +kernel) (by decide +kernel)
set_option maxRecDepth 20000 in
theorem gX0_writeEnds_X3_accept : GoodIn wsX0_writeEnds (wsV RX0 113 RX3 yX3_accept wsX3_accept) := goodIn_app (goodIn_of _ (by decide +kernel)) ggX0_writeEnds_X3_accept
theorem dX0_writeEnds_0 : decode cX0_writeEnds 0 = .ok (.iconst 0, 1) := by decide +kernel
theorem dX0_writeEnds_1 : decode cX0_writeEnds 1 = .ok (.istore_n 1, 1) := by decide +kernel
theorem dX0_writeEnds_2 : decode cX0_writeEnds 2 = .ok (.iload_n 1, 1) := by decide +kernel
theorem dX0_writeEnds_3 : decode cX0_writeEnds 3 = .ok (.aload_n 0, 1) := by decide +kernel
theorem dX0_writeEnds_4 : decode cX0_writeEnds 4 = .ok (.getfield 22, 3) := by decide +kernel
theorem dX0_writeEnds_7 : decode cX0_writeEnds 7 = .ok (.invokevirtual 34, 3) := by decide +kernel
theorem dX0_writeEnds_10 : decode cX0_writeEnds 10 = .ok (.if_icmp .ge 31, 3) := by decide +kernel
theorem dX0_writeEnds_13 : decode cX0_writeEnds 13 = .ok (.aload_n 0, 1) := by decide +kernel
theorem dX0_writeEnds_14 : decode cX0_writeEnds 14 = .ok (.aload_n 0, 1) := by decide +kernel
theorem dX0_writeEnds_15 : decode cX0_writeEnds 15 = .ok (.iconst 0, 1) := by decide +kernel
theorem dX0_writeEnds_16 : decode cX0_writeEnds 16 = .ok (.iload_n 1, 1) := by decide +kernel
theorem dX0_writeEnds_17 : decode cX0_writeEnds 17 = .ok (.aload_n 0, 1) := by decide +kernel
theorem dX0_writeEnds_18 : decode cX0_writeEnds 18 = .ok (.getfield 22, 3) := by decide +kernel
theorem dX0_writeEnds_21 : decode cX0_writeEnds 21 = .ok (.getfield 101, 3) := by decide +kernel
theorem dX0_writeEnds_24 : decode cX0_writeEnds 24 = .ok (.iload_n 1, 1) := by decide +kernel
theorem dX0_writeEnds_25 : decode cX0_writeEnds 25 = .ok (.iaload, 1) := by decide +kernel
theorem dX0_writeEnds_26 : decode cX0_writeEnds 26 = .ok (.invokevirtual 86, 3) := by decide +kernel
theorem dX0_writeEnds_29 : decode cX0_writeEnds 29 = .ok (.invokestatic 104, 3) := by decide +kernel
theorem dX0_writeEnds_32 : decode cX0_writeEnds 32 = .ok (.invokevirtual 110, 3) := by decide +kernel
theorem dX0_writeEnds_35 : decode cX0_writeEnds 35 = .ok (.iinc 1 1, 3) := by decide +kernel
theorem dX0_writeEnds_38 : decode cX0_writeEnds 38 = .ok (.goto (-36), 3) := by decide +kernel
theorem dX0_writeEnds_41 : decode cX0_writeEnds 41 = .ok (.aload_n 0, 1) := by decide +kernel
theorem dX0_writeEnds_42 : decode cX0_writeEnds 42 = .ok (.aload_n 0, 1) := by decide +kernel
theorem dX0_writeEnds_43 : decode cX0_writeEnds 43 = .ok (.iconst 0, 1) := by decide +kernel
theorem dX0_writeEnds_44 : decode cX0_writeEnds 44 = .ok (.iconst 0, 1) := by decide +kernel
theorem dX0_writeEnds_45 : decode cX0_writeEnds 45 = .ok (.invokevirtual 94, 3) := by decide +kernel
theorem dX0_writeEnds_48 : decode cX0_writeEnds 48 = .ok (.invokestatic 104, 3) := by decide +kernel
theorem dX0_writeEnds_51 : decode cX0_writeEnds 51 = .ok (.invokevirtual 110, 3) := by decide +kernel
theorem dX0_writeEnds_54 : decode cX0_writeEnds 54 = .ok (.aload_n 0, 1) := by decide +kernel
theorem dX0_writeEnds_55 : decode cX0_writeEnds 55 = .ok (.aload_n 0, 1) := by decide +kernel
theorem dX0_writeEnds_56 : decode cX0_writeEnds 56 = .ok (.iconst 0, 1) := by decide +kernel
theorem dX0_writeEnds_57 : decode cX0_writeEnds 57 = .ok (.iconst 0, 1) := by decide +kernel
theorem dX0_writeEnds_58 : decode cX0_writeEnds 58 = .ok (.invokevirtual 98, 3) := by decide +kernel
theorem dX0_writeEnds_61 : decode cX0_writeEnds 61 = .ok (.invokestatic 104, 3) := by decide +kernel
theorem dX0_writeEnds_64 : decode cX0_writeEnds 64 = .ok (.invokevirtual 110, 3) := by decide +kernel
theorem dX0_writeEnds_67 : decode cX0_writeEnds 67 = .ok (.aload_n 0, 1) := by decide +kernel
theorem dX0_writeEnds_68 : decode cX0_writeEnds 68 = .ok (.aload_n 0, 1) := by decide +kernel
theorem dX0_writeEnds_69 : decode cX0_writeEnds 69 = .ok (.aload_n 0, 1) := by decide +kernel
theorem dX0_writeEnds_70 : decode cX0_writeEnds 70 = .ok (.getfield 22, 3) := by decide +kernel
theorem dX0_writeEnds_73 : decode cX0_writeEnds 73 = .ok (.getfield 71, 3) := by decide +kernel
theorem dX0_writeEnds_76 : decode cX0_writeEnds 76 = .ok (.aload_n 0, 1) := by decide +kernel
theorem dX0_writeEnds_77 : decode cX0_writeEnds 77 = .ok (.getfield 22, 3) := by decide +kernel
theorem dX0_writeEnds_80 : decode cX0_writeEnds 80 = .ok (.invokevirtual 113, 3) := by decide +kernel
theorem dX0_writeEnds_83 : decode cX0_writeEnds 83 = .ok (.invokevirtual 98, 3) := by decide +kernel
theorem dX0_writeEnds_86 : decode cX0_writeEnds 86 = .ok (.invokestatic 104, 3) := by decide +kernel
theorem dX0_writeEnds_89 : decode cX0_writeEnds 89 = .ok (.invokevirtual 110, 3) := by decide +kernel
theorem dX0_writeEnds_92 : decode cX0_writeEnds 92 = .ok (.return_, 1) := by decide +kernel
set_option maxRecDepth 20000 in
theorem ggX0_writeStep_X0_choiceVariable : GoodIn wsX0_writeStep wsX0_choiceVariable := goodIn_r _ [8, 9, 1, 2, 101, 102, 103, 104, 105, 106, 107, 108, 109, 110, 111, 112, 113, 114, 115, 116, 117, 118, 119] (by decide +kernel) (by decide +kernel)
set_option maxRecDepth 20000 in
theorem gX0_writeStep_X0_choiceVariable : GoodIn wsX0_writeStep (wsV RX0 116 RX0 yX0_choiceVariable wsX0_choiceVariable) := goodIn_app (goodIn_of _ (by decide +kernel)) ggX0_writeStep_X0_choiceVariable
set_option maxRecDepth 20000 in
theorem ggX0_writeStep_X0_someOf : GoodIn wsX0_writeStep wsX0_someOf := goodIn_r _ [13, 14, 15, 16, 17, 18, 19, 20, 21, 22, 23, 24, 25, 26, 27, 28, 29, 30, 31, 32, 33, 34, 35, 36, 37, 38, 39, 40, 41, 42, 43, 44, 45, 101, 102, 103, 104, 105, 106, 107, 108, 109, 120, 121] (by decide +kernel) (by decide +kernel)
set_option maxRecDepth 20000 in
theorem gX0_writeStep_X0_someOf : GoodIn wsX0_writeStep (wsV RX0 119 RX0 yX0_someOf wsX0_someOf) := goodIn_app (goodIn_of _ (by decide +kernel)) ggX0_writeStep_X0_someOf
set_option maxRecDepth 20000 in
theorem ggX0_writeStep_X0_writeRule : GoodIn wsX0_writeStep wsX0_writeRule := goodIn_r _ [49, 1, 50, 51, 52, 53, 54, 4, 5, 6, 7, 8, 9, 2, 55, 18, 56, 57, 58, 59, 60, 61, 62, 17, 19, 63, 64, 65, 66, 14, 15, 16, 20, 21, 22, 23, 24, 25, 26, 27, 28, 29, 30, 31, 32, 33, 34, 35, 36, 37, 38, 39, 40, 41, 42, 43, 44, 45, 67, 68, 69, 70, 71, 72, 73, 74, 75, 76, 77, 78, 79, 80, 81, 3, 82, 83, 84, 85, 86, 87, 101, 102, 103, 104, 105, 106, 107, 108, 109, 110, 111, 112, 113, 114, 115, 116, 117, 118, 119, 120, 121] (by decide +kernel) (by decide +kernel)
set_option maxRecDepth 20000 in
theorem gX0_writeStep_X0_writeRule : GoodIn wsX0_writeStep (wsV RX0 122 RX0 yX0_writeRule wsX0_writeRule) := goodIn_app (goodIn_of _ (by decide +kernel)) ggX0_writeStep_X0_writeRule
set_option maxRecDepth 20000 in
theorem ggX0_writeStep_X0_writeRest : GoodIn wsX0_writeStep wsX0_writeRest := goodIn_r _ [91, 1, 2, 3, 4, 5, 6, 7, 8, 9, 55, 18, 56, 92, 93, 94, 70, 95, 96, 57, 58, 59, 60, 61, 62, 17, 19, 63, 64, 65, 66, 14, 15, 16, 20, 21, 22, 23, 24, 25, 26, 27, 28, 29, 30, 31, 32, 33, 34, 35, 36, 37, 38, 39, 40, 41, 42, 43, 44, 45, 67, 68, 69, 71, 72, 73, 74, 75, 76, 77, 82, 83, 84, 85, 78, 79, 80, 81, 97, 98, 99, 100, 101, 102, 103, 104, 105, 106, 107, 108, 109, 110, 111, 112, 113, 114, 115, 116, 117, 118, 119, 120, 121] (by decide +kernel) (by decide +kernel)
set_option maxRecDepth 20000 in
theorem gX0_writeStep_X0_writeRest : GoodIn wsX0_writeStep (wsV RX0 125 RX0 yX0_writeRest wsX0_writeRest) := goodIn_app (goodIn_of _ (by decide +kernel)) ggX0_writeStep_X0_writeRest
set_option maxRecDepth 20000 in
theorem ggX0_writeStep_X3_cells : GoodIn wsX0_writeStep wsX3_cells := goodIn_r _ [71, 72, 110, 111, 112, 113, 114, 115, 116, 117, 118, 119] (by decide +kernel) (by decide +kernel)
set_option maxRecDepth 20000 in
theorem gX0_writeStep_X3_cells : GoodIn wsX0_writeStep (wsV RX0 34 RX3 yX3_cells wsX3_cells) := goodIn_app (goodIn_of _ (by decide +kernel)) ggX0_writeStep_X3_cells
set_option maxRecDepth 20000 in
theorem ggX0_writeStep_X0_headVariable : GoodIn wsX0_writeStep wsX0_headVariable := goodIn_r _ [76, 77, 1, 67, 68, 69, 70, 71, 72, 101, 102, 103, 104, 105, 106, 107, 108, 109, 110, 111, 112, 113, 114, 115, 116, 117, 118, 119] (by decide +kernel) (by decide +kernel)
set_option maxRecDepth 20000 in
theorem gX0_writeStep_X0_headVariable : GoodIn wsX0_writeStep (wsV RX0 94 RX0 yX0_headVariable wsX0_headVariable) := goodIn_app (goodIn_of _ (by decide +kernel)) ggX0_writeStep_X0_headVariable
set_option maxRecDepth 20000 in
theorem ggX0_writeStep_X7_yes : GoodIn wsX0_writeStep wsX7_yes := goodIn_r _ [19] (by decide +kernel) (by decide +kernel)
set_option maxRecDepth 20000 in
theorem gX0_writeStep_X7_yes_n104 : GoodIn wsX0_writeStep (wsX7_yes) := ggX0_writeStep_X7_yes
set_option maxRecDepth 20000 in
theorem ggX0_writeStep_X0_cellVariable : GoodIn wsX0_writeStep wsX0_cellVariable := goodIn_r _ [81, 1, 3, 67, 68, 69, 70, 71, 72, 101, 102, 103, 104, 105, 106, 107, 108, 109, 110, 111, 112, 113, 114, 115, 116, 117, 118, 119] (by decide +kernel) (by decide +kernel)
set_option maxRecDepth 20000 in
theorem gX0_writeStep_X0_cellVariable : GoodIn wsX0_writeStep (wsV RX0 86 RX0 yX0_cellVariable wsX0_cellVariable) := goodIn_app (goodIn_of _ (by decide +kernel)) ggX0_writeStep_X0_cellVariable
set_option maxRecDepth 20000 in
theorem ggX0_writeStep_X7_no : GoodIn wsX0_writeStep wsX7_no := goodIn_r _ [56] (by decide +kernel) (by decide +kernel)
set_option maxRecDepth 20000 in
theorem gX0_writeStep_X7_no_n128 : GoodIn wsX0_writeStep (wsX7_no) := ggX0_writeStep_X7_no
set_option maxRecDepth 20000 in
theorem ggX0_writeStep_X0_clause__ : GoodIn wsX0_writeStep wsX0_clause__ := goodIn_r _ [85, 14, 15, 16, 20, 21, 22, 23, 24, 25, 26, 27, 28, 29, 30, 31, 32, 33, 34, 35, 36, 37, 38, 39, 40, 41, 42, 43, 44, 45, 101, 102, 103, 104, 105, 106, 107, 108, 109, 120, 121] (by decide +kernel) (by decide +kernel)
set_option maxRecDepth 20000 in
theorem gX0_writeStep_X0_clause__ : GoodIn wsX0_writeStep (wsV RX0 131 RX0 yX0_clause__ wsX0_clause__) := goodIn_app (goodIn_of _ (by decide +kernel)) ggX0_writeStep_X0_clause__
theorem dX0_writeStep_0 : decode cX0_writeStep 0 = .ok (.aload_n 0, 1) := by decide +kernel
theorem dX0_writeStep_1 : decode cX0_writeStep 1 = .ok (.aload_n 0, 1) := by decide +kernel
theorem dX0_writeStep_2 : decode cX0_writeStep 2 = .ok (.iload_n 1, 1) := by decide +kernel
theorem dX0_writeStep_3 : decode cX0_writeStep 3 = .ok (.iconst 0, 1) := by decide +kernel
theorem dX0_writeStep_4 : decode cX0_writeStep 4 = .ok (.invokevirtual 116, 3) := by decide +kernel
theorem dX0_writeStep_7 : decode cX0_writeStep 7 = .ok (.aload_n 0, 1) := by decide +kernel
theorem dX0_writeStep_8 : decode cX0_writeStep 8 = .ok (.getfield 22, 3) := by decide +kernel
theorem dX0_writeStep_11 : decode cX0_writeStep 11 = .ok (.getfield 55, 3) := by decide +kernel
theorem dX0_writeStep_14 : decode cX0_writeStep 14 = .ok (.iconst 1, 1) := by decide +kernel
theorem dX0_writeStep_15 : decode cX0_writeStep 15 = .ok (.iadd, 1) := by decide +kernel
theorem dX0_writeStep_16 : decode cX0_writeStep 16 = .ok (.invokevirtual 119, 3) := by decide +kernel
theorem dX0_writeStep_19 : decode cX0_writeStep 19 = .ok (.iconst 0, 1) := by decide +kernel
theorem dX0_writeStep_20 : decode cX0_writeStep 20 = .ok (.istore_n 2, 1) := by decide +kernel
theorem dX0_writeStep_21 : decode cX0_writeStep 21 = .ok (.iload_n 2, 1) := by decide +kernel
theorem dX0_writeStep_22 : decode cX0_writeStep 22 = .ok (.aload_n 0, 1) := by decide +kernel
theorem dX0_writeStep_23 : decode cX0_writeStep 23 = .ok (.getfield 22, 3) := by decide +kernel
theorem dX0_writeStep_26 : decode cX0_writeStep 26 = .ok (.getfield 55, 3) := by decide +kernel
theorem dX0_writeStep_29 : decode cX0_writeStep 29 = .ok (.if_icmp .ge 15, 3) := by decide +kernel
theorem dX0_writeStep_32 : decode cX0_writeStep 32 = .ok (.aload_n 0, 1) := by decide +kernel
theorem dX0_writeStep_33 : decode cX0_writeStep 33 = .ok (.iload_n 1, 1) := by decide +kernel
theorem dX0_writeStep_34 : decode cX0_writeStep 34 = .ok (.iload_n 2, 1) := by decide +kernel
theorem dX0_writeStep_35 : decode cX0_writeStep 35 = .ok (.invokevirtual 122, 3) := by decide +kernel
theorem dX0_writeStep_38 : decode cX0_writeStep 38 = .ok (.iinc 2 1, 3) := by decide +kernel
theorem dX0_writeStep_41 : decode cX0_writeStep 41 = .ok (.goto (-20), 3) := by decide +kernel
theorem dX0_writeStep_44 : decode cX0_writeStep 44 = .ok (.aload_n 0, 1) := by decide +kernel
theorem dX0_writeStep_45 : decode cX0_writeStep 45 = .ok (.iload_n 1, 1) := by decide +kernel
theorem dX0_writeStep_46 : decode cX0_writeStep 46 = .ok (.invokevirtual 125, 3) := by decide +kernel
theorem dX0_writeStep_49 : decode cX0_writeStep 49 = .ok (.iconst 0, 1) := by decide +kernel
theorem dX0_writeStep_50 : decode cX0_writeStep 50 = .ok (.istore_n 2, 1) := by decide +kernel
theorem dX0_writeStep_51 : decode cX0_writeStep 51 = .ok (.iload_n 2, 1) := by decide +kernel
theorem dX0_writeStep_52 : decode cX0_writeStep 52 = .ok (.aload_n 0, 1) := by decide +kernel
theorem dX0_writeStep_53 : decode cX0_writeStep 53 = .ok (.getfield 22, 3) := by decide +kernel
theorem dX0_writeStep_56 : decode cX0_writeStep 56 = .ok (.invokevirtual 34, 3) := by decide +kernel
theorem dX0_writeStep_59 : decode cX0_writeStep 59 = .ok (.if_icmp .ge 63, 3) := by decide +kernel
theorem dX0_writeStep_62 : decode cX0_writeStep 62 = .ok (.iconst 0, 1) := by decide +kernel
theorem dX0_writeStep_63 : decode cX0_writeStep 63 = .ok (.istore_n 3, 1) := by decide +kernel
theorem dX0_writeStep_64 : decode cX0_writeStep 64 = .ok (.iload_n 3, 1) := by decide +kernel
theorem dX0_writeStep_65 : decode cX0_writeStep 65 = .ok (.aload_n 0, 1) := by decide +kernel
theorem dX0_writeStep_66 : decode cX0_writeStep 66 = .ok (.getfield 22, 3) := by decide +kernel
theorem dX0_writeStep_69 : decode cX0_writeStep 69 = .ok (.getfield 40, 3) := by decide +kernel
theorem dX0_writeStep_72 : decode cX0_writeStep 72 = .ok (.if_icmp .ge 44, 3) := by decide +kernel
theorem dX0_writeStep_75 : decode cX0_writeStep 75 = .ok (.aload_n 0, 1) := by decide +kernel
theorem dX0_writeStep_76 : decode cX0_writeStep 76 = .ok (.aload_n 0, 1) := by decide +kernel
theorem dX0_writeStep_77 : decode cX0_writeStep 77 = .ok (.iload_n 1, 1) := by decide +kernel
theorem dX0_writeStep_78 : decode cX0_writeStep 78 = .ok (.iload_n 2, 1) := by decide +kernel
theorem dX0_writeStep_79 : decode cX0_writeStep 79 = .ok (.invokevirtual 94, 3) := by decide +kernel
theorem dX0_writeStep_82 : decode cX0_writeStep 82 = .ok (.invokestatic 104, 3) := by decide +kernel
theorem dX0_writeStep_85 : decode cX0_writeStep 85 = .ok (.aload_n 0, 1) := by decide +kernel
theorem dX0_writeStep_86 : decode cX0_writeStep 86 = .ok (.iload_n 1, 1) := by decide +kernel
theorem dX0_writeStep_87 : decode cX0_writeStep 87 = .ok (.iload_n 2, 1) := by decide +kernel
theorem dX0_writeStep_88 : decode cX0_writeStep 88 = .ok (.iload_n 3, 1) := by decide +kernel
theorem dX0_writeStep_89 : decode cX0_writeStep 89 = .ok (.invokevirtual 86, 3) := by decide +kernel
theorem dX0_writeStep_92 : decode cX0_writeStep 92 = .ok (.invokestatic 128, 3) := by decide +kernel
theorem dX0_writeStep_95 : decode cX0_writeStep 95 = .ok (.aload_n 0, 1) := by decide +kernel
theorem dX0_writeStep_96 : decode cX0_writeStep 96 = .ok (.iload_n 1, 1) := by decide +kernel
theorem dX0_writeStep_97 : decode cX0_writeStep 97 = .ok (.iconst 1, 1) := by decide +kernel
theorem dX0_writeStep_98 : decode cX0_writeStep 98 = .ok (.iadd, 1) := by decide +kernel
theorem dX0_writeStep_99 : decode cX0_writeStep 99 = .ok (.iload_n 2, 1) := by decide +kernel
theorem dX0_writeStep_100 : decode cX0_writeStep 100 = .ok (.iload_n 3, 1) := by decide +kernel
theorem dX0_writeStep_101 : decode cX0_writeStep 101 = .ok (.invokevirtual 86, 3) := by decide +kernel
theorem dX0_writeStep_104 : decode cX0_writeStep 104 = .ok (.invokestatic 104, 3) := by decide +kernel
theorem dX0_writeStep_107 : decode cX0_writeStep 107 = .ok (.invokevirtual 131, 3) := by decide +kernel
theorem dX0_writeStep_110 : decode cX0_writeStep 110 = .ok (.iinc 3 1, 3) := by decide +kernel
theorem dX0_writeStep_113 : decode cX0_writeStep 113 = .ok (.goto (-49), 3) := by decide +kernel
theorem dX0_writeStep_116 : decode cX0_writeStep 116 = .ok (.iinc 2 1, 3) := by decide +kernel
theorem dX0_writeStep_119 : decode cX0_writeStep 119 = .ok (.goto (-68), 3) := by decide +kernel
theorem dX0_writeStep_122 : decode cX0_writeStep 122 = .ok (.return_, 1) := by decide +kernel
set_option maxRecDepth 20000 in
theorem ggX0_writeRule_X0_choiceVariable : GoodIn wsX0_writeRule wsX0_choiceVariable := goodIn_r _ [11, 12, 1, 13, 80, 81, 82, 83, 84, 85, 86, 87, 88, 89, 90, 91, 92, 93, 94, 95, 96, 97, 98] (by decide +kernel) (by decide +kernel)
set_option maxRecDepth 20000 in
theorem gX0_writeRule_X0_choiceVariable : GoodIn wsX0_writeRule (wsV RX0 116 RX0 yX0_choiceVariable wsX0_choiceVariable) := goodIn_app (goodIn_of _ (by decide +kernel)) ggX0_writeRule_X0_choiceVariable
set_option maxRecDepth 20000 in
theorem ggX0_writeRule_X7_no : GoodIn wsX0_writeRule wsX7_no := goodIn_r _ [16] (by decide +kernel) (by decide +kernel)
set_option maxRecDepth 20000 in
theorem gX0_writeRule_X7_no_n128 : GoodIn wsX0_writeRule (wsX7_no) := ggX0_writeRule_X7_no
set_option maxRecDepth 20000 in
theorem ggX0_writeRule_X0_stateVariable : GoodIn wsX0_writeRule wsX0_stateVariable := goodIn_r _ [20, 21, 1, 22, 80, 81, 82, 83, 84, 85, 86, 87, 88, 89, 90, 91, 92, 93, 94, 95, 96, 97, 98] (by decide +kernel) (by decide +kernel)
set_option maxRecDepth 20000 in
theorem gX0_writeRule_X0_stateVariable : GoodIn wsX0_writeRule (wsV RX0 98 RX0 yX0_stateVariable wsX0_stateVariable) := goodIn_app (goodIn_of _ (by decide +kernel)) ggX0_writeRule_X0_stateVariable
set_option maxRecDepth 20000 in
theorem ggX0_writeRule_X7_yes : GoodIn wsX0_writeRule wsX7_yes := goodIn_r _ [24] (by decide +kernel) (by decide +kernel)
set_option maxRecDepth 20000 in
theorem gX0_writeRule_X7_yes_n104 : GoodIn wsX0_writeRule (wsX7_yes) := ggX0_writeRule_X7_yes
set_option maxRecDepth 20000 in
theorem ggX0_writeRule_X0_clause_ : GoodIn wsX0_writeRule wsX0_clause_ := goodIn_r _ [28, 29, 30, 31, 32, 33, 34, 35, 36, 37, 38, 39, 40, 41, 42, 43, 44, 45, 46, 47, 48, 49, 50, 51, 52, 53, 54, 55, 56, 57, 80, 81, 82, 83, 84, 85, 86, 87, 88, 99, 100] (by decide +kernel) (by decide +kernel)
set_option maxRecDepth 20000 in
theorem gX0_writeRule_X0_clause_ : GoodIn wsX0_writeRule (wsV RX0 137 RX0 yX0_clause_ wsX0_clause_) := goodIn_app (goodIn_of _ (by decide +kernel)) ggX0_writeRule_X0_clause_
set_option maxRecDepth 20000 in
theorem ggX0_writeRule_X3_cells : GoodIn wsX0_writeRule wsX3_cells := goodIn_r _ [62, 63, 89, 90, 91, 92, 93, 94, 95, 96, 97, 98] (by decide +kernel) (by decide +kernel)
set_option maxRecDepth 20000 in
theorem gX0_writeRule_X3_cells : GoodIn wsX0_writeRule (wsV RX0 34 RX3 yX3_cells wsX3_cells) := goodIn_app (goodIn_of _ (by decide +kernel)) ggX0_writeRule_X3_cells
set_option maxRecDepth 20000 in
theorem ggX0_writeRule_X0_headVariable : GoodIn wsX0_writeRule wsX0_headVariable := goodIn_r _ [67, 68, 1, 58, 59, 60, 61, 62, 63, 80, 81, 82, 83, 84, 85, 86, 87, 88, 89, 90, 91, 92, 93, 94, 95, 96, 97, 98] (by decide +kernel) (by decide +kernel)
set_option maxRecDepth 20000 in
theorem gX0_writeRule_X0_headVariable : GoodIn wsX0_writeRule (wsV RX0 94 RX0 yX0_headVariable wsX0_headVariable) := goodIn_app (goodIn_of _ (by decide +kernel)) ggX0_writeRule_X0_headVariable
set_option maxRecDepth 20000 in
theorem ggX0_writeRule_X0_cellVariable : GoodIn wsX0_writeRule wsX0_cellVariable := goodIn_r _ [72, 1, 73, 58, 59, 60, 61, 62, 63, 80, 81, 82, 83, 84, 85, 86, 87, 88, 89, 90, 91, 92, 93, 94, 95, 96, 97, 98] (by decide +kernel) (by decide +kernel)
set_option maxRecDepth 20000 in
theorem gX0_writeRule_X0_cellVariable : GoodIn wsX0_writeRule (wsV RX0 86 RX0 yX0_cellVariable wsX0_cellVariable) := goodIn_app (goodIn_of _ (by decide +kernel)) ggX0_writeRule_X0_cellVariable
set_option maxRecDepth 20000 in
theorem ggX0_writeRule_X0_clause__ : GoodIn wsX0_writeRule wsX0_clause__ := goodIn_r _ [77, 29, 30, 31, 32, 33, 34, 35, 36, 37, 38, 39, 40, 41, 42, 43, 44, 45, 46, 47, 48, 49, 50, 51, 52, 53, 54, 55, 56, 57, 80, 81, 82, 83, 84, 85, 86, 87, 88, 99, 100] (by decide +kernel) (by decide +kernel)
set_option maxRecDepth 20000 in
theorem gX0_writeRule_X0_clause__ : GoodIn wsX0_writeRule (wsV RX0 131 RX0 yX0_clause__ wsX0_clause__) := goodIn_app (goodIn_of _ (by decide +kernel)) ggX0_writeRule_X0_clause__
set_option maxRecDepth 20000 in
theorem ggX0_writeRule_X7_isIndex : GoodIn wsX0_writeRule wsX7_isIndex := goodIn_r _ [79] (by decide +kernel) (by decide +kernel)
set_option maxRecDepth 20000 in
theorem gX0_writeRule_X7_isIndex_n151 : GoodIn wsX0_writeRule (wsX7_isIndex) := ggX0_writeRule_X7_isIndex
theorem dX0_writeRule_0 : decode cX0_writeRule 0 = .ok (.aload_n 0, 1) := by decide +kernel
theorem dX0_writeRule_1 : decode cX0_writeRule 1 = .ok (.iload_n 1, 1) := by decide +kernel
theorem dX0_writeRule_2 : decode cX0_writeRule 2 = .ok (.iload_n 2, 1) := by decide +kernel
theorem dX0_writeRule_3 : decode cX0_writeRule 3 = .ok (.invokevirtual 116, 3) := by decide +kernel
theorem dX0_writeRule_6 : decode cX0_writeRule 6 = .ok (.invokestatic 128, 3) := by decide +kernel
theorem dX0_writeRule_9 : decode cX0_writeRule 9 = .ok (.istore_n 3, 1) := by decide +kernel
theorem dX0_writeRule_10 : decode cX0_writeRule 10 = .ok (.aload_n 0, 1) := by decide +kernel
theorem dX0_writeRule_11 : decode cX0_writeRule 11 = .ok (.iload_n 3, 1) := by decide +kernel
theorem dX0_writeRule_12 : decode cX0_writeRule 12 = .ok (.aload_n 0, 1) := by decide +kernel
theorem dX0_writeRule_13 : decode cX0_writeRule 13 = .ok (.iload_n 1, 1) := by decide +kernel
theorem dX0_writeRule_14 : decode cX0_writeRule 14 = .ok (.aload_n 0, 1) := by decide +kernel
theorem dX0_writeRule_15 : decode cX0_writeRule 15 = .ok (.getfield 22, 3) := by decide +kernel
theorem dX0_writeRule_18 : decode cX0_writeRule 18 = .ok (.getfield 134, 3) := by decide +kernel
theorem dX0_writeRule_21 : decode cX0_writeRule 21 = .ok (.iload_n 2, 1) := by decide +kernel
theorem dX0_writeRule_22 : decode cX0_writeRule 22 = .ok (.iaload, 1) := by decide +kernel
theorem dX0_writeRule_23 : decode cX0_writeRule 23 = .ok (.invokevirtual 98, 3) := by decide +kernel
theorem dX0_writeRule_26 : decode cX0_writeRule 26 = .ok (.invokestatic 104, 3) := by decide +kernel
theorem dX0_writeRule_29 : decode cX0_writeRule 29 = .ok (.invokevirtual 137, 3) := by decide +kernel
theorem dX0_writeRule_32 : decode cX0_writeRule 32 = .ok (.aload_n 0, 1) := by decide +kernel
theorem dX0_writeRule_33 : decode cX0_writeRule 33 = .ok (.iload_n 3, 1) := by decide +kernel
theorem dX0_writeRule_34 : decode cX0_writeRule 34 = .ok (.aload_n 0, 1) := by decide +kernel
theorem dX0_writeRule_35 : decode cX0_writeRule 35 = .ok (.iload_n 1, 1) := by decide +kernel
theorem dX0_writeRule_36 : decode cX0_writeRule 36 = .ok (.iconst 1, 1) := by decide +kernel
theorem dX0_writeRule_37 : decode cX0_writeRule 37 = .ok (.iadd, 1) := by decide +kernel
theorem dX0_writeRule_38 : decode cX0_writeRule 38 = .ok (.aload_n 0, 1) := by decide +kernel
theorem dX0_writeRule_39 : decode cX0_writeRule 39 = .ok (.getfield 22, 3) := by decide +kernel
theorem dX0_writeRule_42 : decode cX0_writeRule 42 = .ok (.getfield 139, 3) := by decide +kernel
theorem dX0_writeRule_45 : decode cX0_writeRule 45 = .ok (.iload_n 2, 1) := by decide +kernel
theorem dX0_writeRule_46 : decode cX0_writeRule 46 = .ok (.iaload, 1) := by decide +kernel
theorem dX0_writeRule_47 : decode cX0_writeRule 47 = .ok (.invokevirtual 98, 3) := by decide +kernel
theorem dX0_writeRule_50 : decode cX0_writeRule 50 = .ok (.invokestatic 104, 3) := by decide +kernel
theorem dX0_writeRule_53 : decode cX0_writeRule 53 = .ok (.invokevirtual 137, 3) := by decide +kernel
theorem dX0_writeRule_56 : decode cX0_writeRule 56 = .ok (.iconst 0, 1) := by decide +kernel
theorem dX0_writeRule_57 : decode cX0_writeRule 57 = .ok (.istore 4, 2) := by decide +kernel
theorem dX0_writeRule_59 : decode cX0_writeRule 59 = .ok (.iload 4, 2) := by decide +kernel
theorem dX0_writeRule_61 : decode cX0_writeRule 61 = .ok (.aload_n 0, 1) := by decide +kernel
theorem dX0_writeRule_62 : decode cX0_writeRule 62 = .ok (.getfield 22, 3) := by decide +kernel
theorem dX0_writeRule_65 : decode cX0_writeRule 65 = .ok (.invokevirtual 34, 3) := by decide +kernel
theorem dX0_writeRule_68 : decode cX0_writeRule 68 = .ok (.if_icmp .ge 133, 3) := by decide +kernel
theorem dX0_writeRule_71 : decode cX0_writeRule 71 = .ok (.aload_n 0, 1) := by decide +kernel
theorem dX0_writeRule_72 : decode cX0_writeRule 72 = .ok (.iload_n 1, 1) := by decide +kernel
theorem dX0_writeRule_73 : decode cX0_writeRule 73 = .ok (.iload 4, 2) := by decide +kernel
theorem dX0_writeRule_75 : decode cX0_writeRule 75 = .ok (.invokevirtual 94, 3) := by decide +kernel
theorem dX0_writeRule_78 : decode cX0_writeRule 78 = .ok (.invokestatic 128, 3) := by decide +kernel
theorem dX0_writeRule_81 : decode cX0_writeRule 81 = .ok (.istore 5, 2) := by decide +kernel
theorem dX0_writeRule_83 : decode cX0_writeRule 83 = .ok (.iload 4, 2) := by decide +kernel
theorem dX0_writeRule_85 : decode cX0_writeRule 85 = .ok (.aload_n 0, 1) := by decide +kernel
theorem dX0_writeRule_86 : decode cX0_writeRule 86 = .ok (.getfield 22, 3) := by decide +kernel
theorem dX0_writeRule_89 : decode cX0_writeRule 89 = .ok (.getfield 142, 3) := by decide +kernel
theorem dX0_writeRule_92 : decode cX0_writeRule 92 = .ok (.iload_n 2, 1) := by decide +kernel
theorem dX0_writeRule_93 : decode cX0_writeRule 93 = .ok (.iaload, 1) := by decide +kernel
theorem dX0_writeRule_94 : decode cX0_writeRule 94 = .ok (.iadd, 1) := by decide +kernel
theorem dX0_writeRule_95 : decode cX0_writeRule 95 = .ok (.istore 6, 2) := by decide +kernel
theorem dX0_writeRule_97 : decode cX0_writeRule 97 = .ok (.aload_n 0, 1) := by decide +kernel
theorem dX0_writeRule_98 : decode cX0_writeRule 98 = .ok (.iload_n 3, 1) := by decide +kernel
theorem dX0_writeRule_99 : decode cX0_writeRule 99 = .ok (.iload 5, 2) := by decide +kernel
theorem dX0_writeRule_101 : decode cX0_writeRule 101 = .ok (.aload_n 0, 1) := by decide +kernel
theorem dX0_writeRule_102 : decode cX0_writeRule 102 = .ok (.iload_n 1, 1) := by decide +kernel
theorem dX0_writeRule_103 : decode cX0_writeRule 103 = .ok (.iload 4, 2) := by decide +kernel
theorem dX0_writeRule_105 : decode cX0_writeRule 105 = .ok (.aload_n 0, 1) := by decide +kernel
theorem dX0_writeRule_106 : decode cX0_writeRule 106 = .ok (.getfield 22, 3) := by decide +kernel
theorem dX0_writeRule_109 : decode cX0_writeRule 109 = .ok (.getfield 145, 3) := by decide +kernel
theorem dX0_writeRule_112 : decode cX0_writeRule 112 = .ok (.iload_n 2, 1) := by decide +kernel
theorem dX0_writeRule_113 : decode cX0_writeRule 113 = .ok (.iaload, 1) := by decide +kernel
theorem dX0_writeRule_114 : decode cX0_writeRule 114 = .ok (.invokevirtual 86, 3) := by decide +kernel
theorem dX0_writeRule_117 : decode cX0_writeRule 117 = .ok (.invokestatic 104, 3) := by decide +kernel
theorem dX0_writeRule_120 : decode cX0_writeRule 120 = .ok (.invokevirtual 131, 3) := by decide +kernel
theorem dX0_writeRule_123 : decode cX0_writeRule 123 = .ok (.aload_n 0, 1) := by decide +kernel
theorem dX0_writeRule_124 : decode cX0_writeRule 124 = .ok (.iload_n 3, 1) := by decide +kernel
theorem dX0_writeRule_125 : decode cX0_writeRule 125 = .ok (.iload 5, 2) := by decide +kernel
theorem dX0_writeRule_127 : decode cX0_writeRule 127 = .ok (.aload_n 0, 1) := by decide +kernel
theorem dX0_writeRule_128 : decode cX0_writeRule 128 = .ok (.iload_n 1, 1) := by decide +kernel
theorem dX0_writeRule_129 : decode cX0_writeRule 129 = .ok (.iconst 1, 1) := by decide +kernel
theorem dX0_writeRule_130 : decode cX0_writeRule 130 = .ok (.iadd, 1) := by decide +kernel
theorem dX0_writeRule_131 : decode cX0_writeRule 131 = .ok (.iload 4, 2) := by decide +kernel
theorem dX0_writeRule_133 : decode cX0_writeRule 133 = .ok (.aload_n 0, 1) := by decide +kernel
theorem dX0_writeRule_134 : decode cX0_writeRule 134 = .ok (.getfield 22, 3) := by decide +kernel
theorem dX0_writeRule_137 : decode cX0_writeRule 137 = .ok (.getfield 148, 3) := by decide +kernel
theorem dX0_writeRule_140 : decode cX0_writeRule 140 = .ok (.iload_n 2, 1) := by decide +kernel
theorem dX0_writeRule_141 : decode cX0_writeRule 141 = .ok (.iaload, 1) := by decide +kernel
theorem dX0_writeRule_142 : decode cX0_writeRule 142 = .ok (.invokevirtual 86, 3) := by decide +kernel
theorem dX0_writeRule_145 : decode cX0_writeRule 145 = .ok (.invokestatic 104, 3) := by decide +kernel
theorem dX0_writeRule_148 : decode cX0_writeRule 148 = .ok (.invokevirtual 131, 3) := by decide +kernel
theorem dX0_writeRule_151 : decode cX0_writeRule 151 = .ok (.iload 6, 2) := by decide +kernel
theorem dX0_writeRule_153 : decode cX0_writeRule 153 = .ok (.aload_n 0, 1) := by decide +kernel
theorem dX0_writeRule_154 : decode cX0_writeRule 154 = .ok (.getfield 22, 3) := by decide +kernel
theorem dX0_writeRule_157 : decode cX0_writeRule 157 = .ok (.invokevirtual 34, 3) := by decide +kernel
theorem dX0_writeRule_160 : decode cX0_writeRule 160 = .ok (.invokestatic 151, 3) := by decide +kernel
theorem dX0_writeRule_163 : decode cX0_writeRule 163 = .ok (.ifCond .eq 25, 3) := by decide +kernel
theorem dX0_writeRule_166 : decode cX0_writeRule 166 = .ok (.aload_n 0, 1) := by decide +kernel
theorem dX0_writeRule_167 : decode cX0_writeRule 167 = .ok (.iload_n 3, 1) := by decide +kernel
theorem dX0_writeRule_168 : decode cX0_writeRule 168 = .ok (.iload 5, 2) := by decide +kernel
theorem dX0_writeRule_170 : decode cX0_writeRule 170 = .ok (.aload_n 0, 1) := by decide +kernel
theorem dX0_writeRule_171 : decode cX0_writeRule 171 = .ok (.iload_n 1, 1) := by decide +kernel
theorem dX0_writeRule_172 : decode cX0_writeRule 172 = .ok (.iconst 1, 1) := by decide +kernel
theorem dX0_writeRule_173 : decode cX0_writeRule 173 = .ok (.iadd, 1) := by decide +kernel
theorem dX0_writeRule_174 : decode cX0_writeRule 174 = .ok (.iload 6, 2) := by decide +kernel
theorem dX0_writeRule_176 : decode cX0_writeRule 176 = .ok (.invokevirtual 94, 3) := by decide +kernel
theorem dX0_writeRule_179 : decode cX0_writeRule 179 = .ok (.invokestatic 104, 3) := by decide +kernel
theorem dX0_writeRule_182 : decode cX0_writeRule 182 = .ok (.invokevirtual 131, 3) := by decide +kernel
theorem dX0_writeRule_185 : decode cX0_writeRule 185 = .ok (.goto 10, 3) := by decide +kernel
theorem dX0_writeRule_188 : decode cX0_writeRule 188 = .ok (.aload_n 0, 1) := by decide +kernel
theorem dX0_writeRule_189 : decode cX0_writeRule 189 = .ok (.iload_n 3, 1) := by decide +kernel
theorem dX0_writeRule_190 : decode cX0_writeRule 190 = .ok (.iload 5, 2) := by decide +kernel
theorem dX0_writeRule_192 : decode cX0_writeRule 192 = .ok (.invokevirtual 137, 3) := by decide +kernel
theorem dX0_writeRule_195 : decode cX0_writeRule 195 = .ok (.iinc 4 1, 3) := by decide +kernel
theorem dX0_writeRule_198 : decode cX0_writeRule 198 = .ok (.goto (-139), 3) := by decide +kernel
theorem dX0_writeRule_201 : decode cX0_writeRule 201 = .ok (.return_, 1) := by decide +kernel
set_option maxRecDepth 20000 in
theorem ggX0_writeRest_X0_choiceVariable : GoodIn wsX0_writeRest wsX0_choiceVariable := goodIn_r _ [8, 9, 1, 2, 82, 83, 84, 85, 86, 87, 88, 89, 90, 91, 92, 93, 94, 95, 96, 97, 98, 99, 100] (by decide +kernel) (by decide +kernel)
set_option maxRecDepth 20000 in
theorem gX0_writeRest_X0_choiceVariable : GoodIn wsX0_writeRest (wsV RX0 116 RX0 yX0_choiceVariable wsX0_choiceVariable) := goodIn_app (goodIn_of _ (by decide +kernel)) ggX0_writeRest_X0_choiceVariable
set_option maxRecDepth 20000 in
theorem ggX0_writeRest_X7_no : GoodIn wsX0_writeRest wsX7_no := goodIn_r _ [12] (by decide +kernel) (by decide +kernel)
set_option maxRecDepth 20000 in
theorem gX0_writeRest_X7_no_n128 : GoodIn wsX0_writeRest (wsX7_no) := ggX0_writeRest_X7_no
set_option maxRecDepth 20000 in
theorem ggX0_writeRest_X3_accept : GoodIn wsX0_writeRest wsX3_accept := goodIn_r _ [17, 18, 91, 92, 93, 94, 95, 96, 97, 98, 99, 100] (by decide +kernel) (by decide +kernel)
set_option maxRecDepth 20000 in
theorem gX0_writeRest_X3_accept : GoodIn wsX0_writeRest (wsV RX0 113 RX3 yX3_accept wsX3_accept) := goodIn_app (goodIn_of _ (by decide +kernel)) ggX0_writeRest_X3_accept
set_option maxRecDepth 20000 in
theorem ggX0_writeRest_X0_stateVariable : GoodIn wsX0_writeRest wsX0_stateVariable := goodIn_r _ [22, 23, 1, 24, 82, 83, 84, 85, 86, 87, 88, 89, 90, 91, 92, 93, 94, 95, 96, 97, 98, 99, 100] (by decide +kernel) (by decide +kernel)
set_option maxRecDepth 20000 in
theorem gX0_writeRest_X0_stateVariable : GoodIn wsX0_writeRest (wsV RX0 98 RX0 yX0_stateVariable wsX0_stateVariable) := goodIn_app (goodIn_of _ (by decide +kernel)) ggX0_writeRest_X0_stateVariable
set_option maxRecDepth 20000 in
theorem ggX0_writeRest_X7_yes : GoodIn wsX0_writeRest wsX7_yes := goodIn_r _ [26] (by decide +kernel) (by decide +kernel)
set_option maxRecDepth 20000 in
theorem gX0_writeRest_X7_yes_n104 : GoodIn wsX0_writeRest (wsX7_yes) := ggX0_writeRest_X7_yes
set_option maxRecDepth 20000 in
theorem ggX0_writeRest_X0_clause_ : GoodIn wsX0_writeRest wsX0_clause_ := goodIn_r _ [30, 31, 32, 33, 34, 35, 36, 37, 38, 39, 40, 41, 42, 43, 44, 45, 46, 47, 48, 49, 50, 51, 52, 53, 54, 55, 56, 57, 58, 59, 82, 83, 84, 85, 86, 87, 88, 89, 90, 101, 102] (by decide +kernel) (by decide +kernel)
set_option maxRecDepth 20000 in
theorem gX0_writeRest_X0_clause_ : GoodIn wsX0_writeRest (wsV RX0 137 RX0 yX0_clause_ wsX0_clause_) := goodIn_app (goodIn_of _ (by decide +kernel)) ggX0_writeRest_X0_clause_
set_option maxRecDepth 20000 in
theorem ggX0_writeRest_X3_cells : GoodIn wsX0_writeRest wsX3_cells := goodIn_r _ [63, 64, 91, 92, 93, 94, 95, 96, 97, 98, 99, 100] (by decide +kernel) (by decide +kernel)
set_option maxRecDepth 20000 in
theorem gX0_writeRest_X3_cells : GoodIn wsX0_writeRest (wsV RX0 34 RX3 yX3_cells wsX3_cells) := goodIn_app (goodIn_of _ (by decide +kernel)) ggX0_writeRest_X3_cells
set_option maxRecDepth 20000 in
theorem ggX0_writeRest_X0_headVariable : GoodIn wsX0_writeRest wsX0_headVariable := goodIn_r _ [68, 69, 1, 60, 61, 62, 16, 63, 64, 82, 83, 84, 85, 86, 87, 88, 89, 90, 91, 92, 93, 94, 95, 96, 97, 98, 99, 100] (by decide +kernel) (by decide +kernel)
set_option maxRecDepth 20000 in
theorem gX0_writeRest_X0_headVariable : GoodIn wsX0_writeRest (wsV RX0 94 RX0 yX0_headVariable wsX0_headVariable) := goodIn_app (goodIn_of _ (by decide +kernel)) ggX0_writeRest_X0_headVariable
set_option maxRecDepth 20000 in
theorem ggX0_writeRest_X0_clause__ : GoodIn wsX0_writeRest wsX0_clause__ := goodIn_r _ [73, 31, 32, 33, 34, 35, 36, 37, 38, 39, 40, 41, 42, 43, 44, 45, 46, 47, 48, 49, 50, 51, 52, 53, 54, 55, 56, 57, 58, 59, 82, 83, 84, 85, 86, 87, 88, 89, 90, 101, 102] (by decide +kernel) (by decide +kernel)
set_option maxRecDepth 20000 in
theorem gX0_writeRest_X0_clause__ : GoodIn wsX0_writeRest (wsV RX0 131 RX0 yX0_clause__ wsX0_clause__) := goodIn_app (goodIn_of _ (by decide +kernel)) ggX0_writeRest_X0_clause__
set_option maxRecDepth 20000 in
theorem ggX0_writeRest_X0_cellVariable : GoodIn wsX0_writeRest wsX0_cellVariable := goodIn_r _ [77, 1, 3, 60, 61, 62, 16, 63, 64, 82, 83, 84, 85, 86, 87, 88, 89, 90, 91, 92, 93, 94, 95, 96, 97, 98, 99, 100] (by decide +kernel) (by decide +kernel)
set_option maxRecDepth 20000 in
theorem gX0_writeRest_X0_cellVariable : GoodIn wsX0_writeRest (wsV RX0 86 RX0 yX0_cellVariable wsX0_cellVariable) := goodIn_app (goodIn_of _ (by decide +kernel)) ggX0_writeRest_X0_cellVariable
set_option maxRecDepth 20000 in
theorem ggX0_writeRest_X0_clause___ : GoodIn wsX0_writeRest wsX0_clause___ := goodIn_r _ [81, 31, 32, 33, 34, 35, 36, 37, 38, 39, 40, 41, 42, 43, 44, 45, 46, 47, 48, 49, 50, 51, 52, 53, 54, 55, 56, 57, 58, 59, 82, 83, 84, 85, 86, 87, 88, 89, 90, 101, 102] (by decide +kernel) (by decide +kernel)
set_option maxRecDepth 20000 in
theorem gX0_writeRest_X0_clause___ : GoodIn wsX0_writeRest (wsV RX0 155 RX0 yX0_clause___ wsX0_clause___) := goodIn_app (goodIn_of _ (by decide +kernel)) ggX0_writeRest_X0_clause___
theorem dX0_writeRest_0 : decode cX0_writeRest 0 = .ok (.aload_n 0, 1) := by decide +kernel
theorem dX0_writeRest_1 : decode cX0_writeRest 1 = .ok (.iload_n 1, 1) := by decide +kernel
theorem dX0_writeRest_2 : decode cX0_writeRest 2 = .ok (.aload_n 0, 1) := by decide +kernel
theorem dX0_writeRest_3 : decode cX0_writeRest 3 = .ok (.getfield 22, 3) := by decide +kernel
theorem dX0_writeRest_6 : decode cX0_writeRest 6 = .ok (.getfield 55, 3) := by decide +kernel
theorem dX0_writeRest_9 : decode cX0_writeRest 9 = .ok (.invokevirtual 116, 3) := by decide +kernel
theorem dX0_writeRest_12 : decode cX0_writeRest 12 = .ok (.invokestatic 128, 3) := by decide +kernel
theorem dX0_writeRest_15 : decode cX0_writeRest 15 = .ok (.istore_n 2, 1) := by decide +kernel
theorem dX0_writeRest_16 : decode cX0_writeRest 16 = .ok (.aload_n 0, 1) := by decide +kernel
theorem dX0_writeRest_17 : decode cX0_writeRest 17 = .ok (.iload_n 2, 1) := by decide +kernel
theorem dX0_writeRest_18 : decode cX0_writeRest 18 = .ok (.aload_n 0, 1) := by decide +kernel
theorem dX0_writeRest_19 : decode cX0_writeRest 19 = .ok (.iload_n 1, 1) := by decide +kernel
theorem dX0_writeRest_20 : decode cX0_writeRest 20 = .ok (.aload_n 0, 1) := by decide +kernel
theorem dX0_writeRest_21 : decode cX0_writeRest 21 = .ok (.getfield 22, 3) := by decide +kernel
theorem dX0_writeRest_24 : decode cX0_writeRest 24 = .ok (.invokevirtual 113, 3) := by decide +kernel
theorem dX0_writeRest_27 : decode cX0_writeRest 27 = .ok (.invokevirtual 98, 3) := by decide +kernel
theorem dX0_writeRest_30 : decode cX0_writeRest 30 = .ok (.invokestatic 104, 3) := by decide +kernel
theorem dX0_writeRest_33 : decode cX0_writeRest 33 = .ok (.invokevirtual 137, 3) := by decide +kernel
theorem dX0_writeRest_36 : decode cX0_writeRest 36 = .ok (.aload_n 0, 1) := by decide +kernel
theorem dX0_writeRest_37 : decode cX0_writeRest 37 = .ok (.iload_n 2, 1) := by decide +kernel
theorem dX0_writeRest_38 : decode cX0_writeRest 38 = .ok (.aload_n 0, 1) := by decide +kernel
theorem dX0_writeRest_39 : decode cX0_writeRest 39 = .ok (.iload_n 1, 1) := by decide +kernel
theorem dX0_writeRest_40 : decode cX0_writeRest 40 = .ok (.iconst 1, 1) := by decide +kernel
theorem dX0_writeRest_41 : decode cX0_writeRest 41 = .ok (.iadd, 1) := by decide +kernel
theorem dX0_writeRest_42 : decode cX0_writeRest 42 = .ok (.aload_n 0, 1) := by decide +kernel
theorem dX0_writeRest_43 : decode cX0_writeRest 43 = .ok (.getfield 22, 3) := by decide +kernel
theorem dX0_writeRest_46 : decode cX0_writeRest 46 = .ok (.invokevirtual 113, 3) := by decide +kernel
theorem dX0_writeRest_49 : decode cX0_writeRest 49 = .ok (.invokevirtual 98, 3) := by decide +kernel
theorem dX0_writeRest_52 : decode cX0_writeRest 52 = .ok (.invokestatic 104, 3) := by decide +kernel
theorem dX0_writeRest_55 : decode cX0_writeRest 55 = .ok (.invokevirtual 137, 3) := by decide +kernel
theorem dX0_writeRest_58 : decode cX0_writeRest 58 = .ok (.iconst 0, 1) := by decide +kernel
theorem dX0_writeRest_59 : decode cX0_writeRest 59 = .ok (.istore_n 3, 1) := by decide +kernel
theorem dX0_writeRest_60 : decode cX0_writeRest 60 = .ok (.iload_n 3, 1) := by decide +kernel
theorem dX0_writeRest_61 : decode cX0_writeRest 61 = .ok (.aload_n 0, 1) := by decide +kernel
theorem dX0_writeRest_62 : decode cX0_writeRest 62 = .ok (.getfield 22, 3) := by decide +kernel
theorem dX0_writeRest_65 : decode cX0_writeRest 65 = .ok (.invokevirtual 34, 3) := by decide +kernel
theorem dX0_writeRest_68 : decode cX0_writeRest 68 = .ok (.if_icmp .ge 90, 3) := by decide +kernel
theorem dX0_writeRest_71 : decode cX0_writeRest 71 = .ok (.aload_n 0, 1) := by decide +kernel
theorem dX0_writeRest_72 : decode cX0_writeRest 72 = .ok (.iload_n 1, 1) := by decide +kernel
theorem dX0_writeRest_73 : decode cX0_writeRest 73 = .ok (.iload_n 3, 1) := by decide +kernel
theorem dX0_writeRest_74 : decode cX0_writeRest 74 = .ok (.invokevirtual 94, 3) := by decide +kernel
theorem dX0_writeRest_77 : decode cX0_writeRest 77 = .ok (.invokestatic 128, 3) := by decide +kernel
theorem dX0_writeRest_80 : decode cX0_writeRest 80 = .ok (.istore 4, 2) := by decide +kernel
theorem dX0_writeRest_82 : decode cX0_writeRest 82 = .ok (.aload_n 0, 1) := by decide +kernel
theorem dX0_writeRest_83 : decode cX0_writeRest 83 = .ok (.iload_n 2, 1) := by decide +kernel
theorem dX0_writeRest_84 : decode cX0_writeRest 84 = .ok (.iload 4, 2) := by decide +kernel
theorem dX0_writeRest_86 : decode cX0_writeRest 86 = .ok (.aload_n 0, 1) := by decide +kernel
theorem dX0_writeRest_87 : decode cX0_writeRest 87 = .ok (.iload_n 1, 1) := by decide +kernel
theorem dX0_writeRest_88 : decode cX0_writeRest 88 = .ok (.iconst 1, 1) := by decide +kernel
theorem dX0_writeRest_89 : decode cX0_writeRest 89 = .ok (.iadd, 1) := by decide +kernel
theorem dX0_writeRest_90 : decode cX0_writeRest 90 = .ok (.iload_n 3, 1) := by decide +kernel
theorem dX0_writeRest_91 : decode cX0_writeRest 91 = .ok (.invokevirtual 94, 3) := by decide +kernel
theorem dX0_writeRest_94 : decode cX0_writeRest 94 = .ok (.invokestatic 104, 3) := by decide +kernel
theorem dX0_writeRest_97 : decode cX0_writeRest 97 = .ok (.invokevirtual 131, 3) := by decide +kernel
theorem dX0_writeRest_100 : decode cX0_writeRest 100 = .ok (.iconst 0, 1) := by decide +kernel
theorem dX0_writeRest_101 : decode cX0_writeRest 101 = .ok (.istore 5, 2) := by decide +kernel
theorem dX0_writeRest_103 : decode cX0_writeRest 103 = .ok (.iload 5, 2) := by decide +kernel
theorem dX0_writeRest_105 : decode cX0_writeRest 105 = .ok (.aload_n 0, 1) := by decide +kernel
theorem dX0_writeRest_106 : decode cX0_writeRest 106 = .ok (.getfield 22, 3) := by decide +kernel
theorem dX0_writeRest_109 : decode cX0_writeRest 109 = .ok (.getfield 40, 3) := by decide +kernel
theorem dX0_writeRest_112 : decode cX0_writeRest 112 = .ok (.if_icmp .ge 40, 3) := by decide +kernel
theorem dX0_writeRest_115 : decode cX0_writeRest 115 = .ok (.aload_n 0, 1) := by decide +kernel
theorem dX0_writeRest_116 : decode cX0_writeRest 116 = .ok (.iload_n 2, 1) := by decide +kernel
theorem dX0_writeRest_117 : decode cX0_writeRest 117 = .ok (.iload 4, 2) := by decide +kernel
theorem dX0_writeRest_119 : decode cX0_writeRest 119 = .ok (.aload_n 0, 1) := by decide +kernel
theorem dX0_writeRest_120 : decode cX0_writeRest 120 = .ok (.iload_n 1, 1) := by decide +kernel
theorem dX0_writeRest_121 : decode cX0_writeRest 121 = .ok (.iload_n 3, 1) := by decide +kernel
theorem dX0_writeRest_122 : decode cX0_writeRest 122 = .ok (.iload 5, 2) := by decide +kernel
theorem dX0_writeRest_124 : decode cX0_writeRest 124 = .ok (.invokevirtual 86, 3) := by decide +kernel
theorem dX0_writeRest_127 : decode cX0_writeRest 127 = .ok (.invokestatic 128, 3) := by decide +kernel
theorem dX0_writeRest_130 : decode cX0_writeRest 130 = .ok (.aload_n 0, 1) := by decide +kernel
theorem dX0_writeRest_131 : decode cX0_writeRest 131 = .ok (.iload_n 1, 1) := by decide +kernel
theorem dX0_writeRest_132 : decode cX0_writeRest 132 = .ok (.iconst 1, 1) := by decide +kernel
theorem dX0_writeRest_133 : decode cX0_writeRest 133 = .ok (.iadd, 1) := by decide +kernel
theorem dX0_writeRest_134 : decode cX0_writeRest 134 = .ok (.iload_n 3, 1) := by decide +kernel
theorem dX0_writeRest_135 : decode cX0_writeRest 135 = .ok (.iload 5, 2) := by decide +kernel
theorem dX0_writeRest_137 : decode cX0_writeRest 137 = .ok (.invokevirtual 86, 3) := by decide +kernel
theorem dX0_writeRest_140 : decode cX0_writeRest 140 = .ok (.invokestatic 104, 3) := by decide +kernel
theorem dX0_writeRest_143 : decode cX0_writeRest 143 = .ok (.invokevirtual 155, 3) := by decide +kernel
theorem dX0_writeRest_146 : decode cX0_writeRest 146 = .ok (.iinc 5 1, 3) := by decide +kernel
theorem dX0_writeRest_149 : decode cX0_writeRest 149 = .ok (.goto (-46), 3) := by decide +kernel
theorem dX0_writeRest_152 : decode cX0_writeRest 152 = .ok (.iinc 3 1, 3) := by decide +kernel
theorem dX0_writeRest_155 : decode cX0_writeRest 155 = .ok (.goto (-95), 3) := by decide +kernel
theorem dX0_writeRest_158 : decode cX0_writeRest 158 = .ok (.return_, 1) := by decide +kernel
set_option maxRecDepth 20000 in
theorem ggX0_justOne_X0_someOf : GoodIn wsX0_justOne wsX0_someOf := goodIn_r _ [5, 6, 7, 8, 9, 10, 11, 12, 13, 14, 15, 16, 17, 18, 19, 20, 21, 22, 23, 24, 25, 26, 27, 28, 29, 30, 31, 32, 33, 34, 35, 36, 37, 44, 45, 46, 47, 48, 49, 50, 51, 52, 53, 54] (by decide +kernel) (by decide +kernel)
set_option maxRecDepth 20000 in
theorem gX0_justOne_X0_someOf : GoodIn wsX0_justOne (wsV RX0 119 RX0 yX0_someOf wsX0_someOf) := goodIn_app (goodIn_of _ (by decide +kernel)) ggX0_justOne_X0_someOf
set_option maxRecDepth 20000 in
theorem ggX0_justOne_X7_no : GoodIn wsX0_justOne wsX7_no := goodIn_r _ [39] (by decide +kernel) (by decide +kernel)
set_option maxRecDepth 20000 in
theorem gX0_justOne_X7_no_n128 : GoodIn wsX0_justOne (wsX7_no) := ggX0_justOne_X7_no
set_option maxRecDepth 20000 in
theorem ggX0_justOne_X0_clause_ : GoodIn wsX0_justOne wsX0_clause_ := goodIn_r _ [43, 6, 7, 8, 12, 13, 14, 15, 16, 17, 18, 19, 20, 21, 22, 23, 24, 25, 26, 27, 28, 29, 30, 31, 32, 33, 34, 35, 36, 37, 44, 45, 46, 47, 48, 49, 50, 51, 52, 53, 54] (by decide +kernel) (by decide +kernel)
set_option maxRecDepth 20000 in
theorem gX0_justOne_X0_clause_ : GoodIn wsX0_justOne (wsV RX0 137 RX0 yX0_clause_ wsX0_clause_) := goodIn_app (goodIn_of _ (by decide +kernel)) ggX0_justOne_X0_clause_
theorem dX0_justOne_0 : decode cX0_justOne 0 = .ok (.aload_n 0, 1) := by decide +kernel
theorem dX0_justOne_1 : decode cX0_justOne 1 = .ok (.iload_n 1, 1) := by decide +kernel
theorem dX0_justOne_2 : decode cX0_justOne 2 = .ok (.iload_n 2, 1) := by decide +kernel
theorem dX0_justOne_3 : decode cX0_justOne 3 = .ok (.invokevirtual 119, 3) := by decide +kernel
theorem dX0_justOne_6 : decode cX0_justOne 6 = .ok (.iload_n 1, 1) := by decide +kernel
theorem dX0_justOne_7 : decode cX0_justOne 7 = .ok (.istore_n 3, 1) := by decide +kernel
theorem dX0_justOne_8 : decode cX0_justOne 8 = .ok (.iload_n 3, 1) := by decide +kernel
theorem dX0_justOne_9 : decode cX0_justOne 9 = .ok (.iload_n 1, 1) := by decide +kernel
theorem dX0_justOne_10 : decode cX0_justOne 10 = .ok (.iload_n 2, 1) := by decide +kernel
theorem dX0_justOne_11 : decode cX0_justOne 11 = .ok (.iadd, 1) := by decide +kernel
theorem dX0_justOne_12 : decode cX0_justOne 12 = .ok (.if_icmp .ge 41, 3) := by decide +kernel
theorem dX0_justOne_15 : decode cX0_justOne 15 = .ok (.iload_n 3, 1) := by decide +kernel
theorem dX0_justOne_16 : decode cX0_justOne 16 = .ok (.iconst 1, 1) := by decide +kernel
theorem dX0_justOne_17 : decode cX0_justOne 17 = .ok (.iadd, 1) := by decide +kernel
theorem dX0_justOne_18 : decode cX0_justOne 18 = .ok (.istore 4, 2) := by decide +kernel
theorem dX0_justOne_20 : decode cX0_justOne 20 = .ok (.iload 4, 2) := by decide +kernel
theorem dX0_justOne_22 : decode cX0_justOne 22 = .ok (.iload_n 1, 1) := by decide +kernel
theorem dX0_justOne_23 : decode cX0_justOne 23 = .ok (.iload_n 2, 1) := by decide +kernel
theorem dX0_justOne_24 : decode cX0_justOne 24 = .ok (.iadd, 1) := by decide +kernel
theorem dX0_justOne_25 : decode cX0_justOne 25 = .ok (.if_icmp .ge 22, 3) := by decide +kernel
theorem dX0_justOne_28 : decode cX0_justOne 28 = .ok (.aload_n 0, 1) := by decide +kernel
theorem dX0_justOne_29 : decode cX0_justOne 29 = .ok (.iload_n 3, 1) := by decide +kernel
theorem dX0_justOne_30 : decode cX0_justOne 30 = .ok (.invokestatic 128, 3) := by decide +kernel
theorem dX0_justOne_33 : decode cX0_justOne 33 = .ok (.iload 4, 2) := by decide +kernel
theorem dX0_justOne_35 : decode cX0_justOne 35 = .ok (.invokestatic 128, 3) := by decide +kernel
theorem dX0_justOne_38 : decode cX0_justOne 38 = .ok (.invokevirtual 137, 3) := by decide +kernel
theorem dX0_justOne_41 : decode cX0_justOne 41 = .ok (.iinc 4 1, 3) := by decide +kernel
theorem dX0_justOne_44 : decode cX0_justOne 44 = .ok (.goto (-24), 3) := by decide +kernel
theorem dX0_justOne_47 : decode cX0_justOne 47 = .ok (.iinc 3 1, 3) := by decide +kernel
theorem dX0_justOne_50 : decode cX0_justOne 50 = .ok (.goto (-42), 3) := by decide +kernel
theorem dX0_justOne_53 : decode cX0_justOne 53 = .ok (.return_, 1) := by decide +kernel
set_option maxRecDepth 20000 in
theorem ggX0_someOf_X7_yes : GoodIn wsX0_someOf wsX7_yes := goodIn_r _ [6] (by decide +kernel) (by decide +kernel)
set_option maxRecDepth 20000 in
theorem gX0_someOf_X7_yes_n104 : GoodIn wsX0_someOf (wsX7_yes) := ggX0_someOf_X7_yes
set_option maxRecDepth 20000 in
theorem ggX0_someOf_X4_add : GoodIn wsX0_someOf wsX4_add := goodIn_r _ [11, 12, 13, 14, 15, 16, 17, 18, 19, 20, 21, 22, 23, 24, 25, 26, 27, 28, 29, 30, 31, 32, 42, 43] (by decide +kernel) (by decide +kernel)
set_option maxRecDepth 20000 in
theorem gX0_someOf_X4_add : GoodIn wsX0_someOf (wsV RX0 61 RX4 yX4_add wsX4_add) := goodIn_app (goodIn_of _ (by decide +kernel)) ggX0_someOf_X4_add
theorem dX0_someOf_0 : decode cX0_someOf 0 = .ok (.iload_n 1, 1) := by decide +kernel
theorem dX0_someOf_1 : decode cX0_someOf 1 = .ok (.istore_n 3, 1) := by decide +kernel
theorem dX0_someOf_2 : decode cX0_someOf 2 = .ok (.iload_n 3, 1) := by decide +kernel
theorem dX0_someOf_3 : decode cX0_someOf 3 = .ok (.iload_n 1, 1) := by decide +kernel
theorem dX0_someOf_4 : decode cX0_someOf 4 = .ok (.iload_n 2, 1) := by decide +kernel
theorem dX0_someOf_5 : decode cX0_someOf 5 = .ok (.iadd, 1) := by decide +kernel
theorem dX0_someOf_6 : decode cX0_someOf 6 = .ok (.if_icmp .ge 20, 3) := by decide +kernel
theorem dX0_someOf_9 : decode cX0_someOf 9 = .ok (.aload_n 0, 1) := by decide +kernel
theorem dX0_someOf_10 : decode cX0_someOf 10 = .ok (.getfield 10, 3) := by decide +kernel
theorem dX0_someOf_13 : decode cX0_someOf 13 = .ok (.iload_n 3, 1) := by decide +kernel
theorem dX0_someOf_14 : decode cX0_someOf 14 = .ok (.invokestatic 104, 3) := by decide +kernel
theorem dX0_someOf_17 : decode cX0_someOf 17 = .ok (.invokevirtual 61, 3) := by decide +kernel
theorem dX0_someOf_20 : decode cX0_someOf 20 = .ok (.iinc 3 1, 3) := by decide +kernel
theorem dX0_someOf_23 : decode cX0_someOf 23 = .ok (.goto (-21), 3) := by decide +kernel
theorem dX0_someOf_26 : decode cX0_someOf 26 = .ok (.aload_n 0, 1) := by decide +kernel
theorem dX0_someOf_27 : decode cX0_someOf 27 = .ok (.getfield 16, 3) := by decide +kernel
theorem dX0_someOf_30 : decode cX0_someOf 30 = .ok (.aload_n 0, 1) := by decide +kernel
theorem dX0_someOf_31 : decode cX0_someOf 31 = .ok (.getfield 10, 3) := by decide +kernel
theorem dX0_someOf_34 : decode cX0_someOf 34 = .ok (.getfield 26, 3) := by decide +kernel
theorem dX0_someOf_37 : decode cX0_someOf 37 = .ok (.invokevirtual 61, 3) := by decide +kernel
theorem dX0_someOf_40 : decode cX0_someOf 40 = .ok (.return_, 1) := by decide +kernel
set_option maxRecDepth 20000 in
theorem ggX0_clause_X4_add : GoodIn wsX0_clause wsX4_add := goodIn_r _ [8, 9, 10, 11, 12, 13, 14, 15, 16, 17, 18, 19, 20, 21, 22, 23, 24, 25, 26, 27, 28, 29, 39, 40] (by decide +kernel) (by decide +kernel)
set_option maxRecDepth 20000 in
theorem gX0_clause_X4_add : GoodIn wsX0_clause (wsV RX0 61 RX4 yX4_add wsX4_add) := goodIn_app (goodIn_of _ (by decide +kernel)) ggX0_clause_X4_add
theorem dX0_clause_0 : decode cX0_clause 0 = .ok (.aload_n 0, 1) := by decide +kernel
theorem dX0_clause_1 : decode cX0_clause 1 = .ok (.getfield 10, 3) := by decide +kernel
theorem dX0_clause_4 : decode cX0_clause 4 = .ok (.iload_n 1, 1) := by decide +kernel
theorem dX0_clause_5 : decode cX0_clause 5 = .ok (.invokevirtual 61, 3) := by decide +kernel
theorem dX0_clause_8 : decode cX0_clause 8 = .ok (.aload_n 0, 1) := by decide +kernel
theorem dX0_clause_9 : decode cX0_clause 9 = .ok (.getfield 16, 3) := by decide +kernel
theorem dX0_clause_12 : decode cX0_clause 12 = .ok (.aload_n 0, 1) := by decide +kernel
theorem dX0_clause_13 : decode cX0_clause 13 = .ok (.getfield 10, 3) := by decide +kernel
theorem dX0_clause_16 : decode cX0_clause 16 = .ok (.getfield 26, 3) := by decide +kernel
theorem dX0_clause_19 : decode cX0_clause 19 = .ok (.invokevirtual 61, 3) := by decide +kernel
theorem dX0_clause_22 : decode cX0_clause 22 = .ok (.return_, 1) := by decide +kernel
set_option maxRecDepth 20000 in
theorem ggX0_clause__X4_add : GoodIn wsX0_clause_ wsX4_add := goodIn_r _ [8, 9, 10, 11, 12, 13, 14, 15, 16, 17, 18, 19, 20, 21, 22, 23, 24, 25, 26, 27, 28, 29, 39, 40] (by decide +kernel) (by decide +kernel)
set_option maxRecDepth 20000 in
theorem gX0_clause__X4_add : GoodIn wsX0_clause_ (wsV RX0 61 RX4 yX4_add wsX4_add) := goodIn_app (goodIn_of _ (by decide +kernel)) ggX0_clause__X4_add
theorem dX0_clause__0 : decode cX0_clause_ 0 = .ok (.aload_n 0, 1) := by decide +kernel
theorem dX0_clause__1 : decode cX0_clause_ 1 = .ok (.getfield 10, 3) := by decide +kernel
theorem dX0_clause__4 : decode cX0_clause_ 4 = .ok (.iload_n 1, 1) := by decide +kernel
theorem dX0_clause__5 : decode cX0_clause_ 5 = .ok (.invokevirtual 61, 3) := by decide +kernel
theorem dX0_clause__8 : decode cX0_clause_ 8 = .ok (.aload_n 0, 1) := by decide +kernel
theorem dX0_clause__9 : decode cX0_clause_ 9 = .ok (.getfield 10, 3) := by decide +kernel
theorem dX0_clause__12 : decode cX0_clause_ 12 = .ok (.iload_n 2, 1) := by decide +kernel
theorem dX0_clause__13 : decode cX0_clause_ 13 = .ok (.invokevirtual 61, 3) := by decide +kernel
theorem dX0_clause__16 : decode cX0_clause_ 16 = .ok (.aload_n 0, 1) := by decide +kernel
theorem dX0_clause__17 : decode cX0_clause_ 17 = .ok (.getfield 16, 3) := by decide +kernel
theorem dX0_clause__20 : decode cX0_clause_ 20 = .ok (.aload_n 0, 1) := by decide +kernel
theorem dX0_clause__21 : decode cX0_clause_ 21 = .ok (.getfield 10, 3) := by decide +kernel
theorem dX0_clause__24 : decode cX0_clause_ 24 = .ok (.getfield 26, 3) := by decide +kernel
theorem dX0_clause__27 : decode cX0_clause_ 27 = .ok (.invokevirtual 61, 3) := by decide +kernel
theorem dX0_clause__30 : decode cX0_clause_ 30 = .ok (.return_, 1) := by decide +kernel
set_option maxRecDepth 20000 in
theorem ggX0_clause___X4_add : GoodIn wsX0_clause__ wsX4_add := goodIn_r _ [8, 9, 10, 11, 12, 13, 14, 15, 16, 17, 18, 19, 20, 21, 22, 23, 24, 25, 26, 27, 28, 29, 39, 40] (by decide +kernel) (by decide +kernel)
set_option maxRecDepth 20000 in
theorem gX0_clause___X4_add : GoodIn wsX0_clause__ (wsV RX0 61 RX4 yX4_add wsX4_add) := goodIn_app (goodIn_of _ (by decide +kernel)) ggX0_clause___X4_add
theorem dX0_clause___0 : decode cX0_clause__ 0 = .ok (.aload_n 0, 1) := by decide +kernel
theorem dX0_clause___1 : decode cX0_clause__ 1 = .ok (.getfield 10, 3) := by decide +kernel
theorem dX0_clause___4 : decode cX0_clause__ 4 = .ok (.iload_n 1, 1) := by decide +kernel
theorem dX0_clause___5 : decode cX0_clause__ 5 = .ok (.invokevirtual 61, 3) := by decide +kernel
theorem dX0_clause___8 : decode cX0_clause__ 8 = .ok (.aload_n 0, 1) := by decide +kernel
theorem dX0_clause___9 : decode cX0_clause__ 9 = .ok (.getfield 10, 3) := by decide +kernel
theorem dX0_clause___12 : decode cX0_clause__ 12 = .ok (.iload_n 2, 1) := by decide +kernel
theorem dX0_clause___13 : decode cX0_clause__ 13 = .ok (.invokevirtual 61, 3) := by decide +kernel
theorem dX0_clause___16 : decode cX0_clause__ 16 = .ok (.aload_n 0, 1) := by decide +kernel
theorem dX0_clause___17 : decode cX0_clause__ 17 = .ok (.getfield 10, 3) := by decide +kernel
theorem dX0_clause___20 : decode cX0_clause__ 20 = .ok (.iload_n 3, 1) := by decide +kernel
theorem dX0_clause___21 : decode cX0_clause__ 21 = .ok (.invokevirtual 61, 3) := by decide +kernel
theorem dX0_clause___24 : decode cX0_clause__ 24 = .ok (.aload_n 0, 1) := by decide +kernel
theorem dX0_clause___25 : decode cX0_clause__ 25 = .ok (.getfield 16, 3) := by decide +kernel
theorem dX0_clause___28 : decode cX0_clause__ 28 = .ok (.aload_n 0, 1) := by decide +kernel
theorem dX0_clause___29 : decode cX0_clause__ 29 = .ok (.getfield 10, 3) := by decide +kernel
theorem dX0_clause___32 : decode cX0_clause__ 32 = .ok (.getfield 26, 3) := by decide +kernel
theorem dX0_clause___35 : decode cX0_clause__ 35 = .ok (.invokevirtual 61, 3) := by decide +kernel
theorem dX0_clause___38 : decode cX0_clause__ 38 = .ok (.return_, 1) := by decide +kernel
set_option maxRecDepth 20000 in
theorem ggX0_clause____X4_add : GoodIn wsX0_clause___ wsX4_add := goodIn_r _ [8, 9, 10, 11, 12, 13, 14, 15, 16, 17, 18, 19, 20, 21, 22, 23, 24, 25, 26, 27, 28, 29, 39, 40] (by decide +kernel) (by decide +kernel)
set_option maxRecDepth 20000 in
theorem gX0_clause____X4_add : GoodIn wsX0_clause___ (wsV RX0 61 RX4 yX4_add wsX4_add) := goodIn_app (goodIn_of _ (by decide +kernel)) ggX0_clause____X4_add
theorem dX0_clause____0 : decode cX0_clause___ 0 = .ok (.aload_n 0, 1) := by decide +kernel
theorem dX0_clause____1 : decode cX0_clause___ 1 = .ok (.getfield 10, 3) := by decide +kernel
theorem dX0_clause____4 : decode cX0_clause___ 4 = .ok (.iload_n 1, 1) := by decide +kernel
theorem dX0_clause____5 : decode cX0_clause___ 5 = .ok (.invokevirtual 61, 3) := by decide +kernel
theorem dX0_clause____8 : decode cX0_clause___ 8 = .ok (.aload_n 0, 1) := by decide +kernel
theorem dX0_clause____9 : decode cX0_clause___ 9 = .ok (.getfield 10, 3) := by decide +kernel
theorem dX0_clause____12 : decode cX0_clause___ 12 = .ok (.iload_n 2, 1) := by decide +kernel
theorem dX0_clause____13 : decode cX0_clause___ 13 = .ok (.invokevirtual 61, 3) := by decide +kernel
theorem dX0_clause____16 : decode cX0_clause___ 16 = .ok (.aload_n 0, 1) := by decide +kernel
theorem dX0_clause____17 : decode cX0_clause___ 17 = .ok (.getfield 10, 3) := by decide +kernel
theorem dX0_clause____20 : decode cX0_clause___ 20 = .ok (.iload_n 3, 1) := by decide +kernel
theorem dX0_clause____21 : decode cX0_clause___ 21 = .ok (.invokevirtual 61, 3) := by decide +kernel
theorem dX0_clause____24 : decode cX0_clause___ 24 = .ok (.aload_n 0, 1) := by decide +kernel
theorem dX0_clause____25 : decode cX0_clause___ 25 = .ok (.getfield 10, 3) := by decide +kernel
theorem dX0_clause____28 : decode cX0_clause___ 28 = .ok (.iload 4, 2) := by decide +kernel
theorem dX0_clause____30 : decode cX0_clause___ 30 = .ok (.invokevirtual 61, 3) := by decide +kernel
theorem dX0_clause____33 : decode cX0_clause___ 33 = .ok (.aload_n 0, 1) := by decide +kernel
theorem dX0_clause____34 : decode cX0_clause___ 34 = .ok (.getfield 16, 3) := by decide +kernel
theorem dX0_clause____37 : decode cX0_clause___ 37 = .ok (.aload_n 0, 1) := by decide +kernel
theorem dX0_clause____38 : decode cX0_clause___ 38 = .ok (.getfield 10, 3) := by decide +kernel
theorem dX0_clause____41 : decode cX0_clause___ 41 = .ok (.getfield 26, 3) := by decide +kernel
theorem dX0_clause____44 : decode cX0_clause___ 44 = .ok (.invokevirtual 61, 3) := by decide +kernel
theorem dX0_clause____47 : decode cX0_clause___ 47 = .ok (.return_, 1) := by decide +kernel
set_option maxRecDepth 20000 in
theorem ggX0_writeThrees_X0_clauses : GoodIn wsX0_writeThrees wsX0_clauses := goodIn_r _ [13, 14, 4, 61, 62, 63, 64, 65, 66, 67, 68, 69, 70, 71] (by decide +kernel) (by decide +kernel)
set_option maxRecDepth 20000 in
theorem gX0_writeThrees_X0_clauses : GoodIn wsX0_writeThrees (wsV RX0 161 RX0 yX0_clauses wsX0_clauses) := goodIn_app (goodIn_of _ (by decide +kernel)) ggX0_writeThrees_X0_clauses
set_option maxRecDepth 20000 in
theorem ggX0_writeThrees_X0_length : GoodIn wsX0_writeThrees wsX0_length := goodIn_r _ [18, 14, 19, 61, 62, 63, 64, 65, 66, 67, 68, 69, 70, 71] (by decide +kernel) (by decide +kernel)
set_option maxRecDepth 20000 in
theorem gX0_writeThrees_X0_length : GoodIn wsX0_writeThrees (wsV RX0 164 RX0 yX0_length wsX0_length) := goodIn_app (goodIn_of _ (by decide +kernel)) ggX0_writeThrees_X0_length
set_option maxRecDepth 20000 in
theorem ggX0_writeThrees_X0_splitClause : GoodIn wsX0_writeThrees wsX0_splitClause := goodIn_r _ [23, 2, 24, 25, 26, 12, 27, 28, 19, 14, 29, 30, 31, 32, 33, 34, 35, 3, 36, 37, 38, 39, 40, 41, 42, 43, 44, 45, 46, 47, 48, 49, 50, 51, 52, 53, 54, 6, 7, 8, 55, 56, 57, 58, 59, 60, 61, 62, 63, 64, 65, 66, 67, 68, 69, 70, 71] (by decide +kernel) (by decide +kernel)
set_option maxRecDepth 20000 in
theorem gX0_writeThrees_X0_splitClause : GoodIn wsX0_writeThrees (wsV RX0 167 RX0 yX0_splitClause wsX0_splitClause) := goodIn_app (goodIn_of _ (by decide +kernel)) ggX0_writeThrees_X0_splitClause
set_option maxRecDepth 20000 in
theorem ggX0_writeThrees_X0_literalOf : GoodIn wsX0_writeThrees wsX0_literalOf := goodIn_r _ [27, 28, 19, 14, 61, 62, 63, 64, 65, 66, 67, 68, 69, 70, 71] (by decide +kernel) (by decide +kernel)
set_option maxRecDepth 20000 in
theorem gX0_writeThrees_X0_literalOf : GoodIn wsX0_writeThrees (wsV RX0 170 RX0 yX0_literalOf wsX0_literalOf) := goodIn_app (goodIn_of _ (by decide +kernel)) ggX0_writeThrees_X0_literalOf
set_option maxRecDepth 20000 in
theorem ggX0_writeThrees_X0_addThree : GoodIn wsX0_writeThrees wsX0_addThree := goodIn_r _ [35, 3, 36, 37, 38, 39, 40, 41, 42, 43, 44, 45, 46, 47, 48, 49, 50, 51, 52, 53, 54, 6, 7, 8, 55, 56, 57, 58, 61, 62, 63, 64, 65, 66, 67, 68, 69, 70, 71] (by decide +kernel) (by decide +kernel)
set_option maxRecDepth 20000 in
theorem gX0_writeThrees_X0_addThree : GoodIn wsX0_writeThrees (wsV RX0 178 RX0 yX0_addThree wsX0_addThree) := goodIn_app (goodIn_of _ (by decide +kernel)) ggX0_writeThrees_X0_addThree
theorem dX0_writeThrees_0 : decode cX0_writeThrees 0 = .ok (.aload_n 0, 1) := by decide +kernel
theorem dX0_writeThrees_1 : decode cX0_writeThrees 1 = .ok (.aload_n 0, 1) := by decide +kernel
theorem dX0_writeThrees_2 : decode cX0_writeThrees 2 = .ok (.getfield 83, 3) := by decide +kernel
theorem dX0_writeThrees_5 : decode cX0_writeThrees 5 = .ok (.putfield 158, 3) := by decide +kernel
theorem dX0_writeThrees_8 : decode cX0_writeThrees 8 = .ok (.aload_n 0, 1) := by decide +kernel
theorem dX0_writeThrees_9 : decode cX0_writeThrees 9 = .ok (.getfield 19, 3) := by decide +kernel
theorem dX0_writeThrees_12 : decode cX0_writeThrees 12 = .ok (.iconst 0, 1) := by decide +kernel
theorem dX0_writeThrees_13 : decode cX0_writeThrees 13 = .ok (.putfield 26, 3) := by decide +kernel
theorem dX0_writeThrees_16 : decode cX0_writeThrees 16 = .ok (.iconst 0, 1) := by decide +kernel
theorem dX0_writeThrees_17 : decode cX0_writeThrees 17 = .ok (.istore_n 1, 1) := by decide +kernel
theorem dX0_writeThrees_18 : decode cX0_writeThrees 18 = .ok (.iload_n 1, 1) := by decide +kernel
theorem dX0_writeThrees_19 : decode cX0_writeThrees 19 = .ok (.aload_n 0, 1) := by decide +kernel
theorem dX0_writeThrees_20 : decode cX0_writeThrees 20 = .ok (.invokevirtual 161, 3) := by decide +kernel
theorem dX0_writeThrees_23 : decode cX0_writeThrees 23 = .ok (.if_icmp .ge 59, 3) := by decide +kernel
theorem dX0_writeThrees_26 : decode cX0_writeThrees 26 = .ok (.aload_n 0, 1) := by decide +kernel
theorem dX0_writeThrees_27 : decode cX0_writeThrees 27 = .ok (.iload_n 1, 1) := by decide +kernel
theorem dX0_writeThrees_28 : decode cX0_writeThrees 28 = .ok (.invokevirtual 164, 3) := by decide +kernel
theorem dX0_writeThrees_31 : decode cX0_writeThrees 31 = .ok (.istore_n 2, 1) := by decide +kernel
theorem dX0_writeThrees_32 : decode cX0_writeThrees 32 = .ok (.iload_n 2, 1) := by decide +kernel
theorem dX0_writeThrees_33 : decode cX0_writeThrees 33 = .ok (.iconst 3, 1) := by decide +kernel
theorem dX0_writeThrees_34 : decode cX0_writeThrees 34 = .ok (.if_icmp .le 12, 3) := by decide +kernel
theorem dX0_writeThrees_37 : decode cX0_writeThrees 37 = .ok (.aload_n 0, 1) := by decide +kernel
theorem dX0_writeThrees_38 : decode cX0_writeThrees 38 = .ok (.iload_n 1, 1) := by decide +kernel
theorem dX0_writeThrees_39 : decode cX0_writeThrees 39 = .ok (.iload_n 2, 1) := by decide +kernel
theorem dX0_writeThrees_40 : decode cX0_writeThrees 40 = .ok (.invokevirtual 167, 3) := by decide +kernel
theorem dX0_writeThrees_43 : decode cX0_writeThrees 43 = .ok (.goto 33, 3) := by decide +kernel
theorem dX0_writeThrees_46 : decode cX0_writeThrees 46 = .ok (.aload_n 0, 1) := by decide +kernel
theorem dX0_writeThrees_47 : decode cX0_writeThrees 47 = .ok (.aload_n 0, 1) := by decide +kernel
theorem dX0_writeThrees_48 : decode cX0_writeThrees 48 = .ok (.iload_n 1, 1) := by decide +kernel
theorem dX0_writeThrees_49 : decode cX0_writeThrees 49 = .ok (.iconst 0, 1) := by decide +kernel
theorem dX0_writeThrees_50 : decode cX0_writeThrees 50 = .ok (.invokevirtual 170, 3) := by decide +kernel
theorem dX0_writeThrees_53 : decode cX0_writeThrees 53 = .ok (.aload_n 0, 1) := by decide +kernel
theorem dX0_writeThrees_54 : decode cX0_writeThrees 54 = .ok (.iload_n 1, 1) := by decide +kernel
theorem dX0_writeThrees_55 : decode cX0_writeThrees 55 = .ok (.iconst 1, 1) := by decide +kernel
theorem dX0_writeThrees_56 : decode cX0_writeThrees 56 = .ok (.iload_n 2, 1) := by decide +kernel
theorem dX0_writeThrees_57 : decode cX0_writeThrees 57 = .ok (.iconst 1, 1) := by decide +kernel
theorem dX0_writeThrees_58 : decode cX0_writeThrees 58 = .ok (.isub, 1) := by decide +kernel
theorem dX0_writeThrees_59 : decode cX0_writeThrees 59 = .ok (.invokestatic 173, 3) := by decide +kernel
theorem dX0_writeThrees_62 : decode cX0_writeThrees 62 = .ok (.invokevirtual 170, 3) := by decide +kernel
theorem dX0_writeThrees_65 : decode cX0_writeThrees 65 = .ok (.aload_n 0, 1) := by decide +kernel
theorem dX0_writeThrees_66 : decode cX0_writeThrees 66 = .ok (.iload_n 1, 1) := by decide +kernel
theorem dX0_writeThrees_67 : decode cX0_writeThrees 67 = .ok (.iload_n 2, 1) := by decide +kernel
theorem dX0_writeThrees_68 : decode cX0_writeThrees 68 = .ok (.iconst 1, 1) := by decide +kernel
theorem dX0_writeThrees_69 : decode cX0_writeThrees 69 = .ok (.isub, 1) := by decide +kernel
theorem dX0_writeThrees_70 : decode cX0_writeThrees 70 = .ok (.invokevirtual 170, 3) := by decide +kernel
theorem dX0_writeThrees_73 : decode cX0_writeThrees 73 = .ok (.invokevirtual 178, 3) := by decide +kernel
theorem dX0_writeThrees_76 : decode cX0_writeThrees 76 = .ok (.iinc 1 1, 3) := by decide +kernel
theorem dX0_writeThrees_79 : decode cX0_writeThrees 79 = .ok (.goto (-61), 3) := by decide +kernel
theorem dX0_writeThrees_82 : decode cX0_writeThrees 82 = .ok (.return_, 1) := by decide +kernel
set_option maxRecDepth 20000 in
theorem ggX0_splitClause_X0_literalOf : GoodIn wsX0_splitClause wsX0_literalOf := goodIn_r _ [6, 7, 8, 9, 46, 47, 48, 49, 50, 51, 52, 53, 54, 55, 56] (by decide +kernel) (by decide +kernel)
set_option maxRecDepth 20000 in
theorem gX0_splitClause_X0_literalOf : GoodIn wsX0_splitClause (wsV RX0 170 RX0 yX0_literalOf wsX0_literalOf) := goodIn_app (goodIn_of _ (by decide +kernel)) ggX0_splitClause_X0_literalOf
set_option maxRecDepth 20000 in
theorem ggX0_splitClause_X7_yes : GoodIn wsX0_splitClause wsX7_yes := goodIn_r _ [12] (by decide +kernel) (by decide +kernel)
set_option maxRecDepth 20000 in
theorem gX0_splitClause_X7_yes_n104 : GoodIn wsX0_splitClause (wsX7_yes) := ggX0_splitClause_X7_yes
set_option maxRecDepth 20000 in
theorem ggX0_splitClause_X0_addThree : GoodIn wsX0_splitClause wsX0_addThree := goodIn_r _ [16, 17, 18, 19, 20, 21, 22, 23, 24, 25, 26, 27, 28, 29, 30, 31, 32, 33, 34, 35, 36, 37, 38, 39, 40, 41, 42, 43, 46, 47, 48, 49, 50, 51, 52, 53, 54, 55, 56] (by decide +kernel) (by decide +kernel)
set_option maxRecDepth 20000 in
theorem gX0_splitClause_X0_addThree : GoodIn wsX0_splitClause (wsV RX0 178 RX0 yX0_addThree wsX0_addThree) := goodIn_app (goodIn_of _ (by decide +kernel)) ggX0_splitClause_X0_addThree
set_option maxRecDepth 20000 in
theorem ggX0_splitClause_X7_no : GoodIn wsX0_splitClause wsX7_no := goodIn_r _ [45] (by decide +kernel) (by decide +kernel)
set_option maxRecDepth 20000 in
theorem gX0_splitClause_X7_no_n128 : GoodIn wsX0_splitClause (wsX7_no) := ggX0_splitClause_X7_no
theorem dX0_splitClause_0 : decode cX0_splitClause 0 = .ok (.aload_n 0, 1) := by decide +kernel
theorem dX0_splitClause_1 : decode cX0_splitClause 1 = .ok (.aload_n 0, 1) := by decide +kernel
theorem dX0_splitClause_2 : decode cX0_splitClause 2 = .ok (.iload_n 1, 1) := by decide +kernel
theorem dX0_splitClause_3 : decode cX0_splitClause 3 = .ok (.iconst 0, 1) := by decide +kernel
theorem dX0_splitClause_4 : decode cX0_splitClause 4 = .ok (.invokevirtual 170, 3) := by decide +kernel
theorem dX0_splitClause_7 : decode cX0_splitClause 7 = .ok (.aload_n 0, 1) := by decide +kernel
theorem dX0_splitClause_8 : decode cX0_splitClause 8 = .ok (.iload_n 1, 1) := by decide +kernel
theorem dX0_splitClause_9 : decode cX0_splitClause 9 = .ok (.iconst 1, 1) := by decide +kernel
theorem dX0_splitClause_10 : decode cX0_splitClause 10 = .ok (.invokevirtual 170, 3) := by decide +kernel
theorem dX0_splitClause_13 : decode cX0_splitClause 13 = .ok (.aload_n 0, 1) := by decide +kernel
theorem dX0_splitClause_14 : decode cX0_splitClause 14 = .ok (.getfield 158, 3) := by decide +kernel
theorem dX0_splitClause_17 : decode cX0_splitClause 17 = .ok (.invokestatic 104, 3) := by decide +kernel
theorem dX0_splitClause_20 : decode cX0_splitClause 20 = .ok (.invokevirtual 178, 3) := by decide +kernel
theorem dX0_splitClause_23 : decode cX0_splitClause 23 = .ok (.iconst 2, 1) := by decide +kernel
theorem dX0_splitClause_24 : decode cX0_splitClause 24 = .ok (.istore_n 3, 1) := by decide +kernel
theorem dX0_splitClause_25 : decode cX0_splitClause 25 = .ok (.iload_n 3, 1) := by decide +kernel
theorem dX0_splitClause_26 : decode cX0_splitClause 26 = .ok (.iload_n 2, 1) := by decide +kernel
theorem dX0_splitClause_27 : decode cX0_splitClause 27 = .ok (.iconst 2, 1) := by decide +kernel
theorem dX0_splitClause_28 : decode cX0_splitClause 28 = .ok (.isub, 1) := by decide +kernel
theorem dX0_splitClause_29 : decode cX0_splitClause 29 = .ok (.if_icmp .ge 45, 3) := by decide +kernel
theorem dX0_splitClause_32 : decode cX0_splitClause 32 = .ok (.aload_n 0, 1) := by decide +kernel
theorem dX0_splitClause_33 : decode cX0_splitClause 33 = .ok (.aload_n 0, 1) := by decide +kernel
theorem dX0_splitClause_34 : decode cX0_splitClause 34 = .ok (.getfield 158, 3) := by decide +kernel
theorem dX0_splitClause_37 : decode cX0_splitClause 37 = .ok (.invokestatic 128, 3) := by decide +kernel
theorem dX0_splitClause_40 : decode cX0_splitClause 40 = .ok (.aload_n 0, 1) := by decide +kernel
theorem dX0_splitClause_41 : decode cX0_splitClause 41 = .ok (.iload_n 1, 1) := by decide +kernel
theorem dX0_splitClause_42 : decode cX0_splitClause 42 = .ok (.iload_n 3, 1) := by decide +kernel
theorem dX0_splitClause_43 : decode cX0_splitClause 43 = .ok (.invokevirtual 170, 3) := by decide +kernel
theorem dX0_splitClause_46 : decode cX0_splitClause 46 = .ok (.aload_n 0, 1) := by decide +kernel
theorem dX0_splitClause_47 : decode cX0_splitClause 47 = .ok (.getfield 158, 3) := by decide +kernel
theorem dX0_splitClause_50 : decode cX0_splitClause 50 = .ok (.iconst 1, 1) := by decide +kernel
theorem dX0_splitClause_51 : decode cX0_splitClause 51 = .ok (.iadd, 1) := by decide +kernel
theorem dX0_splitClause_52 : decode cX0_splitClause 52 = .ok (.invokestatic 104, 3) := by decide +kernel
theorem dX0_splitClause_55 : decode cX0_splitClause 55 = .ok (.invokevirtual 178, 3) := by decide +kernel
theorem dX0_splitClause_58 : decode cX0_splitClause 58 = .ok (.aload_n 0, 1) := by decide +kernel
theorem dX0_splitClause_59 : decode cX0_splitClause 59 = .ok (.dup, 1) := by decide +kernel
theorem dX0_splitClause_60 : decode cX0_splitClause 60 = .ok (.getfield 158, 3) := by decide +kernel
theorem dX0_splitClause_63 : decode cX0_splitClause 63 = .ok (.iconst 1, 1) := by decide +kernel
theorem dX0_splitClause_64 : decode cX0_splitClause 64 = .ok (.iadd, 1) := by decide +kernel
theorem dX0_splitClause_65 : decode cX0_splitClause 65 = .ok (.putfield 158, 3) := by decide +kernel
theorem dX0_splitClause_68 : decode cX0_splitClause 68 = .ok (.iinc 3 1, 3) := by decide +kernel
theorem dX0_splitClause_71 : decode cX0_splitClause 71 = .ok (.goto (-46), 3) := by decide +kernel
theorem dX0_splitClause_74 : decode cX0_splitClause 74 = .ok (.aload_n 0, 1) := by decide +kernel
theorem dX0_splitClause_75 : decode cX0_splitClause 75 = .ok (.aload_n 0, 1) := by decide +kernel
theorem dX0_splitClause_76 : decode cX0_splitClause 76 = .ok (.getfield 158, 3) := by decide +kernel
theorem dX0_splitClause_79 : decode cX0_splitClause 79 = .ok (.invokestatic 128, 3) := by decide +kernel
theorem dX0_splitClause_82 : decode cX0_splitClause 82 = .ok (.aload_n 0, 1) := by decide +kernel
theorem dX0_splitClause_83 : decode cX0_splitClause 83 = .ok (.iload_n 1, 1) := by decide +kernel
theorem dX0_splitClause_84 : decode cX0_splitClause 84 = .ok (.iload_n 2, 1) := by decide +kernel
theorem dX0_splitClause_85 : decode cX0_splitClause 85 = .ok (.iconst 2, 1) := by decide +kernel
theorem dX0_splitClause_86 : decode cX0_splitClause 86 = .ok (.isub, 1) := by decide +kernel
theorem dX0_splitClause_87 : decode cX0_splitClause 87 = .ok (.invokevirtual 170, 3) := by decide +kernel
theorem dX0_splitClause_90 : decode cX0_splitClause 90 = .ok (.aload_n 0, 1) := by decide +kernel
theorem dX0_splitClause_91 : decode cX0_splitClause 91 = .ok (.iload_n 1, 1) := by decide +kernel
theorem dX0_splitClause_92 : decode cX0_splitClause 92 = .ok (.iload_n 2, 1) := by decide +kernel
theorem dX0_splitClause_93 : decode cX0_splitClause 93 = .ok (.iconst 1, 1) := by decide +kernel
theorem dX0_splitClause_94 : decode cX0_splitClause 94 = .ok (.isub, 1) := by decide +kernel
theorem dX0_splitClause_95 : decode cX0_splitClause 95 = .ok (.invokevirtual 170, 3) := by decide +kernel
theorem dX0_splitClause_98 : decode cX0_splitClause 98 = .ok (.invokevirtual 178, 3) := by decide +kernel
theorem dX0_splitClause_101 : decode cX0_splitClause 101 = .ok (.aload_n 0, 1) := by decide +kernel
theorem dX0_splitClause_102 : decode cX0_splitClause 102 = .ok (.dup, 1) := by decide +kernel
theorem dX0_splitClause_103 : decode cX0_splitClause 103 = .ok (.getfield 158, 3) := by decide +kernel
theorem dX0_splitClause_106 : decode cX0_splitClause 106 = .ok (.iconst 1, 1) := by decide +kernel
theorem dX0_splitClause_107 : decode cX0_splitClause 107 = .ok (.iadd, 1) := by decide +kernel
theorem dX0_splitClause_108 : decode cX0_splitClause 108 = .ok (.putfield 158, 3) := by decide +kernel
theorem dX0_splitClause_111 : decode cX0_splitClause 111 = .ok (.return_, 1) := by decide +kernel
set_option maxRecDepth 20000 in
theorem ggX0_addThree_X4_add : GoodIn wsX0_addThree wsX4_add := goodIn_r _ [6, 7, 8, 9, 10, 11, 12, 13, 14, 15, 16, 17, 18, 19, 20, 21, 22, 23, 24, 25, 26, 27, 37, 38] (by decide +kernel) (by decide +kernel)
set_option maxRecDepth 20000 in
theorem gX0_addThree_X4_add : GoodIn wsX0_addThree (wsV RX0 61 RX4 yX4_add wsX4_add) := goodIn_app (goodIn_of _ (by decide +kernel)) ggX0_addThree_X4_add
theorem dX0_addThree_0 : decode cX0_addThree 0 = .ok (.aload_n 0, 1) := by decide +kernel
theorem dX0_addThree_1 : decode cX0_addThree 1 = .ok (.getfield 19, 3) := by decide +kernel
theorem dX0_addThree_4 : decode cX0_addThree 4 = .ok (.iload_n 1, 1) := by decide +kernel
theorem dX0_addThree_5 : decode cX0_addThree 5 = .ok (.invokevirtual 61, 3) := by decide +kernel
theorem dX0_addThree_8 : decode cX0_addThree 8 = .ok (.aload_n 0, 1) := by decide +kernel
theorem dX0_addThree_9 : decode cX0_addThree 9 = .ok (.getfield 19, 3) := by decide +kernel
theorem dX0_addThree_12 : decode cX0_addThree 12 = .ok (.iload_n 2, 1) := by decide +kernel
theorem dX0_addThree_13 : decode cX0_addThree 13 = .ok (.invokevirtual 61, 3) := by decide +kernel
theorem dX0_addThree_16 : decode cX0_addThree 16 = .ok (.aload_n 0, 1) := by decide +kernel
theorem dX0_addThree_17 : decode cX0_addThree 17 = .ok (.getfield 19, 3) := by decide +kernel
theorem dX0_addThree_20 : decode cX0_addThree 20 = .ok (.iload_n 3, 1) := by decide +kernel
theorem dX0_addThree_21 : decode cX0_addThree 21 = .ok (.invokevirtual 61, 3) := by decide +kernel
theorem dX0_addThree_24 : decode cX0_addThree 24 = .ok (.return_, 1) := by decide +kernel
